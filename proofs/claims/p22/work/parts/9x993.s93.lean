/-! What leaves the lists of what is traced as they are. -/
def jv (u w : CSt) : Prop := cI w 9 = cI u 9 ∧ cA w 220 = cA u 220 ∧ cA w 221 = cA u 221
def KV {β : Type} (x : Option (β × CSt)) (u : CSt) : Prop := ∀ r w, x = some (r, w) → jv u w
section KVs
variable {α β γ : Type} {u v w : CSt}
theorem jv_rf : jv u u := ⟨rfl, rfl, rfl⟩
theorem jv_tr (h : jv u v) (h2 : jv v w) : jv u w := ⟨h2.1.trans h.1, h2.2.1.trans h.2.1, h2.2.2.trans h.2.2⟩
theorem KV.tr {x : Option (β × CSt)} (hx : KV x w) (h : jv u w) : KV x u := fun r z e => jv_tr h (hx r z e)
theorem fv_xI {k : Nat} {a : Int32} (hk : k ≠ 9) (h : jv u w) : jv u (xI w k a) := by
  refine jv_tr h ⟨?_, rfl, rfl⟩
  show (if 9 = k then a else cI w 9) = cI w 9
  rw [if_neg (fun q => hk q.symm)]
theorem fv_xA {k i : Nat} {a : Int32} (hk : k ≠ 220 ∧ k ≠ 221) (h : jv u w) : jv u (xA w k i a) := by
  refine jv_tr h ⟨rfl, ?_, ?_⟩
  · show (if 220 = k then upd (cA w k) i a else cA w 220) = cA w 220
    rw [if_neg (fun q => hk.1 q.symm)]
  · show (if 221 = k then upd (cA w k) i a else cA w 221) = cA w 221
    rw [if_neg (fun q => hk.2 q.symm)]
theorem fv_xF {k : Nat} {g : Nat → Int32} (hk : k ≠ 220 ∧ k ≠ 221) (h : jv u w) : jv u (xF w k g) := by
  refine jv_tr h ⟨rfl, ?_, ?_⟩
  · show (if 220 = k then g else cA w 220) = cA w 220
    rw [if_neg (fun q => hk.1 q.symm)]
  · show (if 221 = k then g else cA w 221) = cA w 221
    rw [if_neg (fun q => hk.2 q.symm)]
theorem fv_xB {k i : Nat} {a : Int64} (h : jv u w) : jv u (xB w k i a) := h
theorem fv_xG {k : Nat} {g : Nat → Int64} (h : jv u w) : jv u (xG w k g) := h
theorem fv_xL {k : Nat} {a : Int64} (h : jv u w) : jv u (xL w k a) := h
theorem fv_xpI {q k : Nat} {a : Int32} (h : jv u w) : jv u (xpI w q k a) := h
theorem fv_xpA {q k i : Nat} {a : Int32} (h : jv u w) : jv u (xpA w q k i a) := h
theorem fv_xpF {q k : Nat} {g : Nat → Int32} (h : jv u w) : jv u (xpF w q k g) := h
theorem fv_xpB {q k i : Nat} {a : Int64} (h : jv u w) : jv u (xpB w q k i a) := h
theorem fv_xtI {q k : Nat} {a : Int32} (h : jv u w) : jv u (xtI w q k a) := h
theorem fv_xR {k a : Nat} (h : jv u w) : jv u (xR w k a) := h
theorem fv_xmI {q k : Nat} {a : Int32} (h : jv u w) : jv u (xmI w q k a) := h
theorem fv_xmL {q k : Nat} {a : Int64} (h : jv u w) : jv u (xmL w q k a) := h
theorem KV_some {r : β} (h : jv u w) : KV (some (r, w)) u := fun _ _ e => by cases e; exact h
theorem KV_none : KV (none : Option (β × CSt)) u := fun _ _ e => nomatch e
theorem KV_rd {f : Nat → α} {n : Nat} {i : Int32} {k : α → Option (β × CSt)} (h : ∀ a, KV (k a) u) : KV (rd f n i k) u := by
  intro r z e
  have q : wq (rd f n i k) (fun r' z' => r' = r ∧ z' = z) := ⟨r, z, e, rfl, rfl⟩
  obtain ⟨r1, z1, e1, rfl, rfl⟩ := (wq_rd.mp q).2
  exact h _ _ _ e1
theorem KV_if {c : Prop} {d : Decidable c} {a b : Option (β × CSt)} (ha : KV a u) (hb : KV b u) : KV (if c then a else b) u := by
  by_cases q : c
  · rw [if_pos q]; exact ha
  · rw [if_neg q]; exact hb
theorem KV_zr {v : Int32} {x : Option (β × CSt)} (h : KV x u) : KV (zr v x) u := fun r z e => h r z (zr_of e).2
theorem KV_nz {v : Int32} {x : Option (β × CSt)} (h : KV x u) : KV (nz v x) u := fun r z e => h r z (nz_of e).2
theorem KV_ok {P : Prop} {d : Decidable P} {x : Option (β × CSt)} (h : KV x u) : KV (ok P d x) u := fun r z e => h r z (ok_of e).2
theorem KV_pc {x : CSt} {k : CSt → Option (β × CSt)} (h : KV (k x) u) : KV (pc x k) u := h
theorem KV_wc {n : Nat} {i : Int32} {x : CSt} {k : CSt → Option (β × CSt)} (h : KV (k x) u) : KV (wc n i x k) u := by
  intro r z e
  have q : wq (wc n i x k) (fun r' z' => r' = r ∧ z' = z) := ⟨r, z, e, rfl, rfl⟩
  obtain ⟨r1, z1, e1, rfl, rfl⟩ := (wq_wc.mp q).2
  exact h _ _ e1
theorem KV_bc {x : Option (α × CSt)} {k : α → CSt → Option (β × CSt)} (hx : KV x u) (h : ∀ r w, KV (k r w) w) : KV (bc x k) u := by
  intro r z e
  have q : wq (bc x k) (fun r' z' => r' = r ∧ z' = z) := ⟨r, z, e, rfl, rfl⟩
  obtain ⟨r1, z1, e1, r2, z2, e2, rfl, rfl⟩ := wq_bc.mp q
  exact jv_tr (hx _ _ e1) (h _ _ _ _ e2)
theorem KV_pb {x : Option α} {k : α → Option (β × CSt)} (h : ∀ a, KV (k a) u) : KV (pb x k) u := by
  intro r z e
  have q : wq (pb x k) (fun r' z' => r' = r ∧ z' = z) := ⟨r, z, e, rfl, rfl⟩
  obtain ⟨a, -, r1, z1, e1, rfl, rfl⟩ := wq_pb.mp q
  exact h _ _ _ e1
theorem KV_bt {x : Option (Sum Nat α × CSt)} {k : α → CSt → Option (Sum Nat γ × CSt)} (hx : KV x u) (h : ∀ r w, KV (k r w) w) : KV (bt x k) u := by
  intro r z e
  unfold bt at e
  cases hq : x with
  | none => rw [hq] at e; cases e
  | some a =>
    obtain ⟨y, v⟩ := a
    rw [hq] at e
    cases y with
    | inl n => cases e; exact hx _ _ hq
    | inr b => exact jv_tr (hx _ _ hq) (h _ _ _ _ e)
theorem KV_ix {n : Nat} {i : Int32} {x : Option (β × CSt)} (h : i.toNatClampNeg < n → KV x u) : KV (ix n i x) u := by
  intro r z e
  unfold ix at e
  by_cases c : i < 0 ∨ n ≤ i.toNatClampNeg
  · rw [if_pos c] at e
    cases e
  · rw [if_neg c] at e
    exact h (Nat.not_le.mp (fun q => c (Or.inr q))) r z e
theorem KV_bh {x : Option (Sum Nat α × CSt)} {kc : CSt → Option (β × CSt)} {k : α → CSt → Option (β × CSt)} (hx : KV x u) (h0 : ∀ w, KV (kc w) w) (h : ∀ r w, KV (k r w) w) : KV (bh x kc k) u := by
  intro r z e
  obtain ⟨y1, w1, e1, ⟨-, e2⟩ | ⟨q, -, e2⟩⟩ := bh_of e
  · exact jv_tr (hx _ _ e1) (h0 _ _ _ e2)
  · exact jv_tr (hx _ _ e1) (h _ _ _ _ e2)
end KVs
theorem kv_B_X4_become_0 {N : Nat} {l0 : Nat} {l1 : Int32} {l2 : Int64} {l4 : Int32} {u : CSt}  : KV (B_X4_become_0 N l0 l1 l2 l4 u) u := by
  unfold B_X4_become_0
  refine KV_pc ?_
  refine KV_pc ?_
  refine KV_pc ?_
  refine KV_pc ?_
  refine KV_pc ?_
  refine KV_pc ?_
  refine KV_pc ?_
  refine KV_pc ?_
  refine KV_pc ?_
  refine KV_pc ?_
  refine KV_pc ?_
  refine KV_pc ?_
  refine KV_pc ?_
  refine KV_pc ?_
  exact KV_some (fv_xmI (fv_xmI (fv_xmI (fv_xmI (fv_xmL (fv_xmI (fv_xmI (fv_xmI (fv_xmI (fv_xmI (fv_xmI (fv_xmI (fv_xmI (fv_xmL jv_rf))))))))))))))
theorem kv_F_X4_become {N : Nat} {l0 : Nat} {l1 : Int32} {l2 : Int64} {l4 : Int32} {u : CSt}  : KV (F_X4_become N l0 l1 l2 l4 u) u := by
  unfold F_X4_become
  exact kv_B_X4_become_0.tr jv_rf
theorem kv_B_X4_isLocal_17 {N : Nat} {u : CSt}  : KV (B_X4_isLocal_17 N u) u := by
  unfold B_X4_isLocal_17
  exact KV_some jv_rf
theorem kv_B_X4_isLocal_0 {N : Nat} {l0 : Nat} {u : CSt}  : KV (B_X4_isLocal_0 N l0 u) u := by
  unfold B_X4_isLocal_0
  refine KV_if ?_ ?_
  · skip
    exact kv_B_X4_isLocal_17.tr jv_rf
  · skip
    refine KV_if ?_ ?_
    · skip
      exact kv_B_X4_isLocal_17.tr jv_rf
    · skip
      exact KV_some jv_rf
theorem kv_F_X4_isLocal {N : Nat} {l0 : Nat} {u : CSt}  : KV (F_X4_isLocal N l0 u) u := by
  unfold F_X4_isLocal
  exact kv_B_X4_isLocal_0.tr jv_rf
theorem kv_B_X4_hasNumbers_14 {N : Nat} {u : CSt}  : KV (B_X4_hasNumbers_14 N u) u := by
  unfold B_X4_hasNumbers_14
  exact KV_some jv_rf
theorem kv_B_X4_hasNumbers_0 {N : Nat} {l0 : Nat} {u : CSt}  : KV (B_X4_hasNumbers_0 N l0 u) u := by
  unfold B_X4_hasNumbers_0
  refine KV_if ?_ ?_
  · skip
    exact kv_B_X4_hasNumbers_14.tr jv_rf
  · skip
    refine KV_bc (kv_F_X4_isLocal.tr jv_rf) (fun _ _ => ?_)
    refine KV_if ?_ ?_
    · skip
      exact KV_some jv_rf
    · skip
      exact kv_B_X4_hasNumbers_14.tr jv_rf
theorem kv_F_X4_hasNumbers {N : Nat} {l0 : Nat} {u : CSt}  : KV (F_X4_hasNumbers N l0 u) u := by
  unfold F_X4_hasNumbers
  exact kv_B_X4_hasNumbers_0.tr jv_rf
theorem kv_B_X4_isPlaced_23 {N : Nat} {u : CSt}  : KV (B_X4_isPlaced_23 N u) u := by
  unfold B_X4_isPlaced_23
  exact KV_some jv_rf
theorem kv_B_X4_isPlaced_0 {N : Nat} {l0 : Nat} {u : CSt}  : KV (B_X4_isPlaced_0 N l0 u) u := by
  unfold B_X4_isPlaced_0
  refine KV_if ?_ ?_
  · skip
    refine KV_if ?_ ?_
    · skip
      exact kv_B_X4_isPlaced_23.tr jv_rf
    · skip
      refine KV_if ?_ ?_
      · skip
        exact kv_B_X4_isPlaced_23.tr jv_rf
      · skip
        exact KV_some jv_rf
  · skip
    exact KV_some jv_rf
theorem kv_F_X4_isPlaced {N : Nat} {l0 : Nat} {u : CSt}  : KV (F_X4_isPlaced N l0 u) u := by
  unfold F_X4_isPlaced
  exact kv_B_X4_isPlaced_0.tr jv_rf
theorem kv_B_X4_isInput_0 {N : Nat} {l0 : Nat} {u : CSt}  : KV (B_X4_isInput_0 N l0 u) u := by
  unfold B_X4_isInput_0
  refine KV_if ?_ ?_
  · skip
    refine KV_if ?_ ?_
    · skip
      exact KV_some jv_rf
    · skip
      exact KV_some jv_rf
  · skip
    exact KV_some jv_rf
theorem kv_F_X4_isInput {N : Nat} {l0 : Nat} {u : CSt}  : KV (F_X4_isInput N l0 u) u := by
  unfold F_X4_isInput
  exact kv_B_X4_isInput_0.tr jv_rf
theorem kv_B_X7_become_0 {N : Nat} {l0 : Nat} {l1 : Int32} {l2 : Int32} {l3 : Int32} {u : CSt}  : KV (B_X7_become_0 N l0 l1 l2 l3 u) u := by
  unfold B_X7_become_0
  refine KV_pc ?_
  refine KV_pc ?_
  refine KV_pc ?_
  refine KV_pc ?_
  refine KV_pc ?_
  refine KV_pc ?_
  refine KV_pc ?_
  refine KV_pc ?_
  refine KV_pc ?_
  refine KV_pc ?_
  exact KV_some (fv_xtI (fv_xtI (fv_xtI (fv_xtI (fv_xtI (fv_xtI (fv_xtI (fv_xtI (fv_xtI (fv_xtI jv_rf))))))))))
theorem kv_F_X7_become {N : Nat} {l0 : Nat} {l1 : Int32} {l2 : Int32} {l3 : Int32} {u : CSt}  : KV (F_X7_become N l0 l1 l2 l3 u) u := by
  unfold F_X7_become
  exact kv_B_X7_become_0.tr jv_rf
theorem kv_B_X10_see_0 {N : Nat} {l1 : Int32} {l2 : Int32} {l3 : Int64} {u : CSt}  : KV (B_X10_see_0 N l1 l2 l3 u) u := by
  unfold B_X10_see_0
  refine KV_rd (fun _ => ?_)
  refine KV_if ?_ ?_
  · skip
    exact KV_some jv_rf
  · skip
    refine KV_wc ?_
    refine KV_wc ?_
    refine KV_rd (fun _ => ?_)
    refine KV_wc ?_
    refine KV_rd (fun _ => ?_)
    refine KV_wc ?_
    refine KV_wc ?_
    refine KV_pc ?_
    refine KV_if ?_ ?_
    · skip
      refine KV_pc ?_
      exact KV_some (fv_xI (by first | decide | (refine ⟨?_, ?_⟩ <;> omega)) (fv_xI (by first | decide | (refine ⟨?_, ?_⟩ <;> omega)) (fv_xB (fv_xA (by first | decide | (refine ⟨?_, ?_⟩ <;> omega)) (fv_xA (by first | decide | (refine ⟨?_, ?_⟩ <;> omega)) (fv_xA (by first | decide | (refine ⟨?_, ?_⟩ <;> omega)) (fv_xB jv_rf)))))))
    · skip
      refine KV_pc ?_
      exact KV_some (fv_xI (by first | decide | (refine ⟨?_, ?_⟩ <;> omega)) (fv_xI (by first | decide | (refine ⟨?_, ?_⟩ <;> omega)) (fv_xB (fv_xA (by first | decide | (refine ⟨?_, ?_⟩ <;> omega)) (fv_xA (by first | decide | (refine ⟨?_, ?_⟩ <;> omega)) (fv_xA (by first | decide | (refine ⟨?_, ?_⟩ <;> omega)) (fv_xB jv_rf)))))))
theorem kv_F_X10_see {N : Nat} {l1 : Int32} {l2 : Int32} {l3 : Int64} {u : CSt}  : KV (F_X10_see N l1 l2 l3 u) u := by
  unfold F_X10_see
  exact kv_B_X10_see_0.tr jv_rf
theorem kv_B_X6_ofSort_0 {N : Nat} {l0 : Nat} {l1 : Int32} {u : CSt}  : KV (B_X6_ofSort_0 N l0 l1 u) u := by
  unfold B_X6_ofSort_0
  refine KV_rd (fun _ => ?_)
  exact KV_some jv_rf
theorem kv_F_X6_ofSort {N : Nat} {l0 : Nat} {l1 : Int32} {u : CSt}  : KV (F_X6_ofSort N l0 l1 u) u := by
  unfold F_X6_ofSort
  exact kv_B_X6_ofSort_0.tr jv_rf
theorem kv_B_X6_has_0 {N : Nat} {l0 : Nat} {l1 : Int32} {l2 : Int32} {u : CSt}  : KV (B_X6_has_0 N l0 l1 l2 u) u := by
  unfold B_X6_has_0
  refine KV_if ?_ ?_
  · skip
    exact KV_some jv_rf
  · skip
    refine KV_rd (fun _ => ?_)
    refine KV_if ?_ ?_
    · skip
      exact KV_some jv_rf
    · skip
      exact KV_some jv_rf
theorem kv_F_X6_has {N : Nat} {l0 : Nat} {l1 : Int32} {l2 : Int32} {u : CSt}  : KV (F_X6_has N l0 l1 l2 u) u := by
  unfold F_X6_has
  exact kv_B_X6_has_0.tr jv_rf
theorem kv_B_X6_name_0 {N : Nat} {l0 : Nat} {l1 : Int32} {u : CSt}  : KV (B_X6_name_0 N l0 l1 u) u := by
  unfold B_X6_name_0
  refine KV_if ?_ ?_
  · skip
    exact KV_some jv_rf
  · skip
    refine KV_if ?_ ?_
    · skip
      exact KV_some jv_rf
    · skip
      refine KV_ix (fun _ => ?_)
      exact KV_some jv_rf
theorem kv_F_X6_name {N : Nat} {l0 : Nat} {l1 : Int32} {u : CSt}  : KV (F_X6_name N l0 l1 u) u := by
  unfold F_X6_name
  exact kv_B_X6_name_0.tr jv_rf
theorem kv_B_X6_nth_0 {N : Nat} {l0 : Nat} {l1 : Int32} {l2 : Int32} {u : CSt}  : KV (B_X6_nth_0 N l0 l1 l2 u) u := by
  unfold B_X6_nth_0
  refine KV_bc (kv_F_X6_has.tr jv_rf) (fun _ _ => ?_)
  refine KV_if ?_ ?_
  · skip
    exact KV_some jv_rf
  · skip
    refine KV_ix (fun _ => ?_)
    refine KV_rd (fun _ => ?_)
    refine KV_bc (kv_F_X6_name.tr jv_rf) (fun _ _ => ?_)
    refine KV_ok ?_
    exact KV_some jv_rf
theorem kv_F_X6_nth {N : Nat} {l0 : Nat} {l1 : Int32} {l2 : Int32} {u : CSt}  : KV (F_X6_nth N l0 l1 l2 u) u := by
  unfold F_X6_nth
  exact kv_B_X6_nth_0.tr jv_rf
theorem kv_B_X6_local_0 {N : Nat} {l0 : Nat} {l1 : Nat} {l2 : Int32} {u : CSt}  : KV (B_X6_local_0 N l0 l1 l2 u) u := by
  unfold B_X6_local_0
  refine KV_if ?_ ?_
  · skip
    exact KV_some jv_rf
  · skip
    refine KV_if ?_ ?_
    · skip
      exact KV_some jv_rf
    · skip
      refine KV_bc (kv_F_X6_name.tr jv_rf) (fun _ _ => ?_)
      refine KV_ok ?_
      exact KV_some jv_rf
theorem kv_F_X6_local {N : Nat} {l0 : Nat} {l1 : Nat} {l2 : Int32} {u : CSt}  : KV (F_X6_local N l0 l1 l2 u) u := by
  unfold F_X6_local
  exact kv_B_X6_local_0.tr jv_rf
theorem kv_B_X6_localCalled_71 {N : Nat} {R_12 : Nat × Nat × Int64 × Int32 × Int32 × Int32 × CSt → Option (Nat × CSt)} {l0 : Nat} {l1 : Nat} {l2 : Int64} {l4 : Int32} {l5 : Int32} {l6 : Int32} {u : CSt} (h_R_12 : ∀ a, KV (R_12 a) a.2.2.2.2.2.2) : KV (B_X6_localCalled_71 N R_12 l0 l1 l2 l4 l5 l6 u) u := by
  unfold B_X6_localCalled_71
  exact (h_R_12 _).tr jv_rf
theorem kv_B_X6_localCalled_12 {N : Nat} {R_12 : Nat × Nat × Int64 × Int32 × Int32 × Int32 × CSt → Option (Nat × CSt)} {l0 : Nat} {l1 : Nat} {l2 : Int64} {l4 : Int32} {l5 : Int32} {l6 : Int32} {u : CSt} (h_R_12 : ∀ a, KV (R_12 a) a.2.2.2.2.2.2) : KV (B_X6_localCalled_12 N R_12 l0 l1 l2 l4 l5 l6 u) u := by
  unfold B_X6_localCalled_12
  refine KV_if ?_ ?_
  · skip
    exact KV_some jv_rf
  · skip
    refine KV_if ?_ ?_
    · skip
      exact KV_some jv_rf
    · skip
      refine KV_ix (fun _ => ?_)
      refine KV_if ?_ ?_
      · skip
        refine KV_ix (fun _ => ?_)
        refine KV_if ?_ ?_
        · skip
          refine KV_ix (fun _ => ?_)
          exact KV_some jv_rf
        · skip
          exact (kv_B_X6_localCalled_71 h_R_12).tr jv_rf
      · skip
        exact (kv_B_X6_localCalled_71 h_R_12).tr jv_rf
theorem kv_LP_X6_localCalled_12 {N : Nat}  (n : Nat) : ∀ a : Nat × Nat × Int64 × Int32 × Int32 × Int32 × CSt, KV (LP_X6_localCalled_12 N n a) a.2.2.2.2.2.2 := by
  induction n with
  | zero => exact fun a r z e => by have e : (none : Option _) = some (r, z) := e; cases e
  | succ n ih =>
    intro a
    show KV (B_X6_localCalled_12 N (LP_X6_localCalled_12 N n) a.1 a.2.1 a.2.2.1 a.2.2.2.1 a.2.2.2.2.1 a.2.2.2.2.2.1 a.2.2.2.2.2.2) a.2.2.2.2.2.2
    exact kv_B_X6_localCalled_12 ih
theorem kv_B_X6_localCalled_0 {N : Nat} {l0 : Nat} {l1 : Nat} {l2 : Int64} {l4 : Int32} {u : CSt}  : KV (B_X6_localCalled_0 N l0 l1 l2 l4 u) u := by
  unfold B_X6_localCalled_0
  exact (kv_LP_X6_localCalled_12  _ _).tr jv_rf
theorem kv_F_X6_localCalled {N : Nat} {l0 : Nat} {l1 : Nat} {l2 : Int64} {l4 : Int32} {u : CSt}  : KV (F_X6_localCalled N l0 l1 l2 l4 u) u := by
  unfold F_X6_localCalled
  exact kv_B_X6_localCalled_0.tr jv_rf
theorem kv_B_X6_ofText_52 {N : Nat} {R_3 : Nat × Int64 × Int32 × Int32 × CSt → Option (Nat × CSt)} {l0 : Nat} {l1 : Int64} {l3 : Int32} {l4 : Int32} {u : CSt} (h_R_3 : ∀ a, KV (R_3 a) a.2.2.2.2) : KV (B_X6_ofText_52 N R_3 l0 l1 l3 l4 u) u := by
  unfold B_X6_ofText_52
  exact (h_R_3 _).tr jv_rf
theorem kv_B_X6_ofText_61 {N : Nat} {R_61 : Nat × Int64 × Int32 × Int32 × CSt → Option (Nat × CSt)} {l0 : Nat} {l1 : Int64} {l3 : Int32} {l4 : Int32} {u : CSt} (h_R_61 : ∀ a, KV (R_61 a) a.2.2.2.2) : KV (B_X6_ofText_61 N R_61 l0 l1 l3 l4 u) u := by
  unfold B_X6_ofText_61
  refine KV_if ?_ ?_
  · skip
    exact KV_some jv_rf
  · skip
    refine KV_if ?_ ?_
    · skip
      refine KV_ix (fun _ => ?_)
      refine KV_if ?_ ?_
      · skip
        refine KV_ix (fun _ => ?_)
        exact KV_some jv_rf
      · skip
        exact (h_R_61 _).tr jv_rf
    · skip
      exact KV_some jv_rf
theorem kv_LP_X6_ofText_61 {N : Nat}  (n : Nat) : ∀ a : Nat × Int64 × Int32 × Int32 × CSt, KV (LP_X6_ofText_61 N n a) a.2.2.2.2 := by
  induction n with
  | zero => exact fun a r z e => by have e : (none : Option _) = some (r, z) := e; cases e
  | succ n ih =>
    intro a
    show KV (B_X6_ofText_61 N (LP_X6_ofText_61 N n) a.1 a.2.1 a.2.2.1 a.2.2.2.1 a.2.2.2.2) a.2.2.2.2
    exact kv_B_X6_ofText_61 ih
theorem kv_B_X6_ofText_3 {N : Nat} {R_3 : Nat × Int64 × Int32 × Int32 × CSt → Option (Nat × CSt)} {l0 : Nat} {l1 : Int64} {l3 : Int32} {l4 : Int32} {u : CSt} (h_R_3 : ∀ a, KV (R_3 a) a.2.2.2.2) : KV (B_X6_ofText_3 N R_3 l0 l1 l3 l4 u) u := by
  unfold B_X6_ofText_3
  refine KV_if ?_ ?_
  · skip
    exact (kv_LP_X6_ofText_61  _ _).tr jv_rf
  · skip
    refine KV_ix (fun _ => ?_)
    refine KV_if ?_ ?_
    · skip
      refine KV_if ?_ ?_
      · skip
        refine KV_if ?_ ?_
        · skip
          exact (kv_B_X6_ofText_52 h_R_3).tr jv_rf
        · skip
          exact KV_some jv_rf
      · skip
        exact (kv_B_X6_ofText_52 h_R_3).tr jv_rf
    · skip
      exact (kv_B_X6_ofText_52 h_R_3).tr jv_rf
theorem kv_LP_X6_ofText_3 {N : Nat}  (n : Nat) : ∀ a : Nat × Int64 × Int32 × Int32 × CSt, KV (LP_X6_ofText_3 N n a) a.2.2.2.2 := by
  induction n with
  | zero => exact fun a r z e => by have e : (none : Option _) = some (r, z) := e; cases e
  | succ n ih =>
    intro a
    show KV (B_X6_ofText_3 N (LP_X6_ofText_3 N n) a.1 a.2.1 a.2.2.1 a.2.2.2.1 a.2.2.2.2) a.2.2.2.2
    exact kv_B_X6_ofText_3 ih
theorem kv_B_X6_ofText_0 {N : Nat} {l0 : Nat} {l1 : Int64} {l3 : Int32} {u : CSt}  : KV (B_X6_ofText_0 N l0 l1 l3 u) u := by
  unfold B_X6_ofText_0
  exact (kv_LP_X6_ofText_3  _ _).tr jv_rf
theorem kv_F_X6_ofText {N : Nat} {l0 : Nat} {l1 : Int64} {l3 : Int32} {u : CSt}  : KV (F_X6_ofText N l0 l1 l3 u) u := by
  unfold F_X6_ofText
  exact kv_B_X6_ofText_0.tr jv_rf
theorem kv_B_X6_add_86 {N : Nat} {l0 : Nat} {l5 : Nat} {u : CSt}  : KV (B_X6_add_86 N l0 l5 u) u := by
  unfold B_X6_add_86
  refine KV_pc ?_
  exact KV_some (fv_xpI jv_rf)
theorem kv_B_X6_add_0 {N : Nat} {l0 : Nat} {l1 : Int32} {l2 : Int64} {l4 : Int32} {u : CSt}  : KV (B_X6_add_0 N l0 l1 l2 l4 u) u := by
  unfold B_X6_add_0
  refine KV_if ?_ ?_
  · skip
    refine KV_ix (fun _ => ?_)
    refine KV_bc (kv_F_X4_become.tr jv_rf) (fun _ _ => ?_)
    refine KV_pc ?_
    refine KV_if ?_ ?_
    · skip
      exact kv_B_X6_add_86.tr (fv_xmI jv_rf)
    · skip
      refine KV_rd (fun _ => ?_)
      refine KV_pc ?_
      refine KV_ix (fun _ => ?_)
      refine KV_wc ?_
      refine KV_rd (fun _ => ?_)
      refine KV_wc ?_
      exact kv_B_X6_add_86.tr (fv_xpA (fv_xpA (fv_xmI (fv_xmI jv_rf))))
  · skip
    exact KV_some jv_rf
theorem kv_F_X6_add {N : Nat} {l0 : Nat} {l1 : Int32} {l2 : Int64} {l4 : Int32} {u : CSt}  : KV (F_X6_add N l0 l1 l2 l4 u) u := by
  unfold F_X6_add
  exact kv_B_X6_add_0.tr jv_rf
theorem kv_B_X6_stoppedTasks_32 {N : Nat} {R_4 : Nat × Int32 × Int32 × CSt → Option (Int32 × CSt)} {l0 : Nat} {l2 : Int32} {s0 : Int32} {s1 : Int32} {u : CSt} (h_R_4 : ∀ a, KV (R_4 a) a.2.2.2) : KV (B_X6_stoppedTasks_32 N R_4 l0 l2 s0 s1 u) u := by
  unfold B_X6_stoppedTasks_32
  exact (h_R_4 _).tr jv_rf
theorem kv_B_X6_stoppedTasks_4 {N : Nat} {R_4 : Nat × Int32 × Int32 × CSt → Option (Int32 × CSt)} {l0 : Nat} {l1 : Int32} {l2 : Int32} {u : CSt} (h_R_4 : ∀ a, KV (R_4 a) a.2.2.2) : KV (B_X6_stoppedTasks_4 N R_4 l0 l1 l2 u) u := by
  unfold B_X6_stoppedTasks_4
  refine KV_rd (fun _ => ?_)
  refine KV_if ?_ ?_
  · skip
    exact KV_some jv_rf
  · skip
    refine KV_ix (fun _ => ?_)
    refine KV_if ?_ ?_
    · skip
      exact (kv_B_X6_stoppedTasks_32 h_R_4).tr jv_rf
    · skip
      exact (kv_B_X6_stoppedTasks_32 h_R_4).tr jv_rf
theorem kv_LP_X6_stoppedTasks_4 {N : Nat}  (n : Nat) : ∀ a : Nat × Int32 × Int32 × CSt, KV (LP_X6_stoppedTasks_4 N n a) a.2.2.2 := by
  induction n with
  | zero => exact fun a r z e => by have e : (none : Option _) = some (r, z) := e; cases e
  | succ n ih =>
    intro a
    show KV (B_X6_stoppedTasks_4 N (LP_X6_stoppedTasks_4 N n) a.1 a.2.1 a.2.2.1 a.2.2.2) a.2.2.2
    exact kv_B_X6_stoppedTasks_4 ih
theorem kv_B_X6_stoppedTasks_0 {N : Nat} {l0 : Nat} {u : CSt}  : KV (B_X6_stoppedTasks_0 N l0 u) u := by
  unfold B_X6_stoppedTasks_0
  exact (kv_LP_X6_stoppedTasks_4  _ _).tr jv_rf
theorem kv_F_X6_stoppedTasks {N : Nat} {l0 : Nat} {u : CSt}  : KV (F_X6_stoppedTasks N l0 u) u := by
  unfold F_X6_stoppedTasks
  exact kv_B_X6_stoppedTasks_0.tr jv_rf
theorem kv_B_X6_step_0 {N : Nat} {l0 : Nat} {l1 : Int32} {l2 : Int32} {l3 : Int32} {l4 : Int32} {u : CSt}  : KV (B_X6_step_0 N l0 l1 l2 l3 l4 u) u := by
  unfold B_X6_step_0
  refine KV_if ?_ ?_
  · skip
    refine KV_wc ?_
    refine KV_wc ?_
    refine KV_wc ?_
    refine KV_wc ?_
    refine KV_pc ?_
    exact KV_some (fv_xpI (fv_xpA (fv_xpA (fv_xpA (fv_xpA jv_rf)))))
  · skip
    exact KV_some jv_rf
theorem kv_F_X6_step {N : Nat} {l0 : Nat} {l1 : Int32} {l2 : Int32} {l3 : Int32} {l4 : Int32} {u : CSt}  : KV (F_X6_step N l0 l1 l2 l3 l4 u) u := by
  unfold F_X6_step
  exact kv_B_X6_step_0.tr jv_rf
theorem kv_B_X6_cost_0 {N : Nat} {l0 : Nat} {l1 : Int32} {u : CSt}  : KV (B_X6_cost_0 N l0 l1 u) u := by
  unfold B_X6_cost_0
  refine KV_bc (kv_F_X6_step.tr jv_rf) (fun _ _ => ?_)
  exact KV_some jv_rf
theorem kv_F_X6_cost {N : Nat} {l0 : Nat} {l1 : Int32} {u : CSt}  : KV (F_X6_cost N l0 l1 u) u := by
  unfold F_X6_cost
  exact kv_B_X6_cost_0.tr jv_rf
theorem kv_B_X6_constant_0 {N : Nat} {l0 : Nat} {l1 : Int64} {l3 : Int32} {l4 : Int32} {u : CSt}  : KV (B_X6_constant_0 N l0 l1 l3 l4 u) u := by
  unfold B_X6_constant_0
  refine KV_bc (kv_F_X6_step.tr jv_rf) (fun _ _ => ?_)
  exact KV_some jv_rf
theorem kv_F_X6_constant {N : Nat} {l0 : Nat} {l1 : Int64} {l3 : Int32} {l4 : Int32} {u : CSt}  : KV (F_X6_constant N l0 l1 l3 l4 u) u := by
  unfold F_X6_constant
  exact kv_B_X6_constant_0.tr jv_rf
theorem kv_B_X6_land_4 {N : Nat} {R_4 : Nat × Int32 × Int32 × CSt → Option (Int32 × CSt)} {l0 : Nat} {l2 : Int32} {l3 : Int32} {u : CSt} (h_R_4 : ∀ a, KV (R_4 a) a.2.2.2) : KV (B_X6_land_4 N R_4 l0 l2 l3 u) u := by
  unfold B_X6_land_4
  refine KV_if ?_ ?_
  · skip
    exact KV_some jv_rf
  · skip
    refine KV_if ?_ ?_
    · skip
      exact KV_some jv_rf
    · skip
      refine KV_if ?_ ?_
      · skip
        exact KV_some jv_rf
      · skip
        refine KV_rd (fun _ => ?_)
        refine KV_wc ?_
        exact (h_R_4 _).tr (fv_xpA jv_rf)
theorem kv_LP_X6_land_4 {N : Nat}  (n : Nat) : ∀ a : Nat × Int32 × Int32 × CSt, KV (LP_X6_land_4 N n a) a.2.2.2 := by
  induction n with
  | zero => exact fun a r z e => by have e : (none : Option _) = some (r, z) := e; cases e
  | succ n ih =>
    intro a
    show KV (B_X6_land_4 N (LP_X6_land_4 N n) a.1 a.2.1 a.2.2.1 a.2.2.2) a.2.2.2
    exact kv_B_X6_land_4 ih
theorem kv_B_X6_land_0 {N : Nat} {l0 : Nat} {l1 : Int32} {u : CSt}  : KV (B_X6_land_0 N l0 l1 u) u := by
  unfold B_X6_land_0
  exact (kv_LP_X6_land_4  _ _).tr jv_rf
theorem kv_F_X6_land {N : Nat} {l0 : Nat} {l1 : Int32} {u : CSt}  : KV (F_X6_land N l0 l1 u) u := by
  unfold F_X6_land
  exact kv_B_X6_land_0.tr jv_rf
theorem kv_B_X6_label_0 {N : Nat} {l0 : Nat} {l1 : Int64} {l3 : Int64} {u : CSt}  : KV (B_X6_label_0 N l0 l1 l3 u) u := by
  unfold B_X6_label_0
  refine KV_if ?_ ?_
  · skip
    exact KV_some jv_rf
  · skip
    refine KV_wc ?_
    refine KV_wc ?_
    refine KV_pc ?_
    exact KV_some (fv_xpI (fv_xpB (fv_xpB jv_rf)))
theorem kv_F_X6_label {N : Nat} {l0 : Nat} {l1 : Int64} {l3 : Int64} {u : CSt}  : KV (F_X6_label N l0 l1 l3 u) u := by
  unfold F_X6_label
  exact kv_B_X6_label_0.tr jv_rf
theorem kv_B_X6_liesIn_52 {N : Nat} {R_3 : Nat × Int64 × Int32 × Int32 × Int32 × CSt → Option (Int32 × CSt)} {l0 : Nat} {l1 : Int64} {l3 : Int32} {l4 : Int32} {l5 : Int32} {u : CSt} (h_R_3 : ∀ a, KV (R_3 a) a.2.2.2.2.2) : KV (B_X6_liesIn_52 N R_3 l0 l1 l3 l4 l5 u) u := by
  unfold B_X6_liesIn_52
  exact (h_R_3 _).tr jv_rf
theorem kv_B_X6_liesIn_3 {N : Nat} {R_3 : Nat × Int64 × Int32 × Int32 × Int32 × CSt → Option (Int32 × CSt)} {l0 : Nat} {l1 : Int64} {l3 : Int32} {l4 : Int32} {l5 : Int32} {u : CSt} (h_R_3 : ∀ a, KV (R_3 a) a.2.2.2.2.2) : KV (B_X6_liesIn_3 N R_3 l0 l1 l3 l4 l5 u) u := by
  unfold B_X6_liesIn_3
  refine KV_if ?_ ?_
  · skip
    exact KV_some jv_rf
  · skip
    refine KV_if ?_ ?_
    · skip
      exact KV_some jv_rf
    · skip
      refine KV_if ?_ ?_
      · skip
        exact KV_some jv_rf
      · skip
        refine KV_rd (fun _ => ?_)
        refine KV_if ?_ ?_
        · skip
          exact (kv_B_X6_liesIn_52 h_R_3).tr jv_rf
        · skip
          refine KV_rd (fun _ => ?_)
          refine KV_if ?_ ?_
          · skip
            exact (kv_B_X6_liesIn_52 h_R_3).tr jv_rf
          · skip
            exact KV_some jv_rf
theorem kv_LP_X6_liesIn_3 {N : Nat}  (n : Nat) : ∀ a : Nat × Int64 × Int32 × Int32 × Int32 × CSt, KV (LP_X6_liesIn_3 N n a) a.2.2.2.2.2 := by
  induction n with
  | zero => exact fun a r z e => by have e : (none : Option _) = some (r, z) := e; cases e
  | succ n ih =>
    intro a
    show KV (B_X6_liesIn_3 N (LP_X6_liesIn_3 N n) a.1 a.2.1 a.2.2.1 a.2.2.2.1 a.2.2.2.2.1 a.2.2.2.2.2) a.2.2.2.2.2
    exact kv_B_X6_liesIn_3 ih
theorem kv_B_X6_liesIn_0 {N : Nat} {l0 : Nat} {l1 : Int64} {l3 : Int32} {l4 : Int32} {u : CSt}  : KV (B_X6_liesIn_0 N l0 l1 l3 l4 u) u := by
  unfold B_X6_liesIn_0
  exact (kv_LP_X6_liesIn_3  _ _).tr jv_rf
theorem kv_F_X6_liesIn {N : Nat} {l0 : Nat} {l1 : Int64} {l3 : Int32} {l4 : Int32} {u : CSt}  : KV (F_X6_liesIn N l0 l1 l3 l4 u) u := by
  unfold F_X6_liesIn
  exact kv_B_X6_liesIn_0.tr jv_rf
theorem kv_B_X9_rewind_0 {N : Nat} {u : CSt}  : KV (B_X9_rewind_0 N u) u := by
  unfold B_X9_rewind_0
  refine KV_pc ?_
  exact KV_some (fv_xI (by first | decide | (refine ⟨?_, ?_⟩ <;> omega)) jv_rf)
theorem kv_F_X9_rewind {N : Nat} {u : CSt}  : KV (F_X9_rewind N u) u := by
  unfold F_X9_rewind
  exact kv_B_X9_rewind_0.tr jv_rf
theorem kv_B_X9_type_0 {N : Nat} {u : CSt}  : KV (B_X9_type_0 N u) u := by
  unfold B_X9_type_0
  refine KV_rd (fun _ => ?_)
  exact KV_some jv_rf
theorem kv_F_X9_type {N : Nat} {u : CSt}  : KV (F_X9_type N u) u := by
  unfold F_X9_type
  exact kv_B_X9_type_0.tr jv_rf
theorem kv_B_X9_typeAhead_0 {N : Nat} {l1 : Int32} {u : CSt}  : KV (B_X9_typeAhead_0 N l1 u) u := by
  unfold B_X9_typeAhead_0
  refine KV_if ?_ ?_
  · skip
    exact KV_some jv_rf
  · skip
    refine KV_rd (fun _ => ?_)
    exact KV_some jv_rf
theorem kv_F_X9_typeAhead {N : Nat} {l1 : Int32} {u : CSt}  : KV (F_X9_typeAhead N l1 u) u := by
  unfold F_X9_typeAhead
  exact kv_B_X9_typeAhead_0.tr jv_rf
theorem kv_B_X9_is_0 {N : Nat} {l1 : Int32} {u : CSt}  : KV (B_X9_is_0 N l1 u) u := by
  unfold B_X9_is_0
  refine KV_rd (fun _ => ?_)
  refine KV_if ?_ ?_
  · skip
    exact KV_some jv_rf
  · skip
    exact KV_some jv_rf
theorem kv_F_X9_is {N : Nat} {l1 : Int32} {u : CSt}  : KV (F_X9_is N l1 u) u := by
  unfold F_X9_is
  exact kv_B_X9_is_0.tr jv_rf
theorem kv_B_X9_isKindWord_0 {N : Nat} {u : CSt}  : KV (B_X9_isKindWord_0 N u) u := by
  unfold B_X9_isKindWord_0
  refine KV_rd (fun _ => ?_)
  refine KV_if ?_ ?_
  · skip
    exact KV_some jv_rf
  · skip
    refine KV_rd (fun _ => ?_)
    refine KV_if ?_ ?_
    · skip
      exact KV_some jv_rf
    · skip
      exact KV_some jv_rf
theorem kv_F_X9_isKindWord {N : Nat} {u : CSt}  : KV (F_X9_isKindWord N u) u := by
  unfold F_X9_isKindWord
  exact kv_B_X9_isKindWord_0.tr jv_rf
theorem kv_B_X9_here_0 {N : Nat} {u : CSt}  : KV (B_X9_here_0 N u) u := by
  unfold B_X9_here_0
  refine KV_rd (fun _ => ?_)
  exact KV_some jv_rf
theorem kv_F_X9_here {N : Nat} {u : CSt}  : KV (F_X9_here N u) u := by
  unfold F_X9_here
  exact kv_B_X9_here_0.tr jv_rf
theorem kv_B_X9_head_0 {N : Nat} {u : CSt}  : KV (B_X9_head_0 N u) u := by
  unfold B_X9_head_0
  refine KV_rd (fun _ => ?_)
  exact KV_some jv_rf
theorem kv_F_X9_head {N : Nat} {u : CSt}  : KV (F_X9_head N u) u := by
  unfold F_X9_head
  exact kv_B_X9_head_0.tr jv_rf
theorem kv_B_X9_tail_0 {N : Nat} {u : CSt}  : KV (B_X9_tail_0 N u) u := by
  unfold B_X9_tail_0
  refine KV_rd (fun _ => ?_)
  exact KV_some jv_rf
theorem kv_F_X9_tail {N : Nat} {u : CSt}  : KV (F_X9_tail N u) u := by
  unfold F_X9_tail
  exact kv_B_X9_tail_0.tr jv_rf
theorem kv_B_X9_isWide_0 {N : Nat} {u : CSt}  : KV (B_X9_isWide_0 N u) u := by
  unfold B_X9_isWide_0
  refine KV_rd (fun _ => ?_)
  refine KV_if ?_ ?_
  · skip
    exact KV_some jv_rf
  · skip
    exact KV_some jv_rf
theorem kv_F_X9_isWide {N : Nat} {u : CSt}  : KV (F_X9_isWide N u) u := by
  unfold F_X9_isWide
  exact kv_B_X9_isWide_0.tr jv_rf
theorem kv_B_X9_next_0 {N : Nat} {u : CSt}  : KV (B_X9_next_0 N u) u := by
  unfold B_X9_next_0
  refine KV_if ?_ ?_
  · skip
    exact KV_some jv_rf
  · skip
    refine KV_pc ?_
    exact KV_some (fv_xI (by first | decide | (refine ⟨?_, ?_⟩ <;> omega)) jv_rf)
theorem kv_F_X9_next {N : Nat} {u : CSt}  : KV (F_X9_next N u) u := by
  unfold F_X9_next
  exact kv_B_X9_next_0.tr jv_rf
theorem kv_B_X9_misfit_0 {N : Nat} {u : CSt}  : KV (B_X9_misfit_0 N u) u := by
  unfold B_X9_misfit_0
  refine KV_rd (fun _ => ?_)
  refine KV_if ?_ ?_
  · skip
    exact KV_some jv_rf
  · skip
    exact KV_some jv_rf
theorem kv_F_X9_misfit {N : Nat} {u : CSt}  : KV (F_X9_misfit N u) u := by
  unfold F_X9_misfit
  exact kv_B_X9_misfit_0.tr jv_rf
theorem kv_B_X9_refuse_0 {N : Nat} {l1 : Int32} {l2 : Int32} {u : CSt}  : KV (B_X9_refuse_0 N l1 l2 u) u := by
  unfold B_X9_refuse_0
  refine KV_pc ?_
  refine KV_pc ?_
  exact KV_some (fv_xI (by first | decide | (refine ⟨?_, ?_⟩ <;> omega)) (fv_xI (by first | decide | (refine ⟨?_, ?_⟩ <;> omega)) jv_rf))
theorem kv_F_X9_refuse {N : Nat} {l1 : Int32} {l2 : Int32} {u : CSt}  : KV (F_X9_refuse N l1 l2 u) u := by
  unfold F_X9_refuse
  exact kv_B_X9_refuse_0.tr jv_rf
theorem kv_B_X9_take_30 {N : Nat} {u : CSt}  : KV (B_X9_take_30 N u) u := by
  unfold B_X9_take_30
  refine KV_bc (kv_F_X9_next.tr jv_rf) (fun _ _ => ?_)
  exact KV_some jv_rf
theorem kv_B_X9_take_0 {N : Nat} {l1 : Int32} {u : CSt}  : KV (B_X9_take_0 N l1 u) u := by
  unfold B_X9_take_0
  refine KV_rd (fun _ => ?_)
  refine KV_if ?_ ?_
  · skip
    exact kv_B_X9_take_30.tr jv_rf
  · skip
    refine KV_bc (kv_F_X9_misfit.tr jv_rf) (fun _ _ => ?_)
    refine KV_rd (fun _ => ?_)
    refine KV_bt (kv_F_X9_refuse.tr jv_rf) (fun _ _ => ?_)
    exact kv_B_X9_take_30.tr jv_rf
theorem kv_F_X9_take {N : Nat} {l1 : Int32} {u : CSt}  : KV (F_X9_take N l1 u) u := by
  unfold F_X9_take
  exact kv_B_X9_take_0.tr jv_rf
theorem kv_B_X9_refuseToken_0 {N : Nat} {u : CSt}  : KV (B_X9_refuseToken_0 N u) u := by
  unfold B_X9_refuseToken_0
  refine KV_bc (kv_F_X9_misfit.tr jv_rf) (fun _ _ => ?_)
  refine KV_rd (fun _ => ?_)
  refine KV_bt (kv_F_X9_refuse.tr jv_rf) (fun _ _ => ?_)
  exact KV_some jv_rf
theorem kv_F_X9_refuseToken {N : Nat} {u : CSt}  : KV (F_X9_refuseToken N u) u := by
  unfold F_X9_refuseToken
  exact kv_B_X9_refuseToken_0.tr jv_rf
theorem kv_B_X9_takeNumber_28 {N : Nat} {u : CSt}  : KV (B_X9_takeNumber_28 N u) u := by
  unfold B_X9_takeNumber_28
  refine KV_rd (fun _ => ?_)
  refine KV_bc (kv_F_X9_next.tr jv_rf) (fun _ _ => ?_)
  exact KV_some jv_rf
theorem kv_B_X9_takeNumber_0 {N : Nat} {u : CSt}  : KV (B_X9_takeNumber_0 N u) u := by
  unfold B_X9_takeNumber_0
  refine KV_rd (fun _ => ?_)
  refine KV_if ?_ ?_
  · skip
    exact kv_B_X9_takeNumber_28.tr jv_rf
  · skip
    refine KV_rd (fun _ => ?_)
    refine KV_bt (kv_F_X9_refuse.tr jv_rf) (fun _ _ => ?_)
    exact kv_B_X9_takeNumber_28.tr jv_rf
theorem kv_F_X9_takeNumber {N : Nat} {u : CSt}  : KV (F_X9_takeNumber N u) u := by
  unfold F_X9_takeNumber
  exact kv_B_X9_takeNumber_0.tr jv_rf
theorem kv_B_X9_takeBounded_53 {N : Nat} {l5 : Int64} {u : CSt}  : KV (B_X9_takeBounded_53 N l5 u) u := by
  unfold B_X9_takeBounded_53
  refine KV_bc (kv_F_X9_next.tr jv_rf) (fun _ _ => ?_)
  exact KV_some jv_rf
theorem kv_B_X9_takeBounded_39 {N : Nat} {l5 : Int64} {u : CSt}  : KV (B_X9_takeBounded_39 N l5 u) u := by
  unfold B_X9_takeBounded_39
  refine KV_rd (fun _ => ?_)
  refine KV_bt (kv_F_X9_refuse.tr jv_rf) (fun _ _ => ?_)
  exact kv_B_X9_takeBounded_53.tr jv_rf
theorem kv_B_X9_takeBounded_0 {N : Nat} {l1 : Int64} {l3 : Int64} {u : CSt}  : KV (B_X9_takeBounded_0 N l1 l3 u) u := by
  unfold B_X9_takeBounded_0
  refine KV_rd (fun _ => ?_)
  refine KV_rd (fun _ => ?_)
  refine KV_if ?_ ?_
  · skip
    refine KV_if ?_ ?_
    · skip
      exact kv_B_X9_takeBounded_39.tr jv_rf
    · skip
      refine KV_if ?_ ?_
      · skip
        exact kv_B_X9_takeBounded_53.tr jv_rf
      · skip
        exact kv_B_X9_takeBounded_39.tr jv_rf
  · skip
    exact kv_B_X9_takeBounded_39.tr jv_rf
theorem kv_F_X9_takeBounded {N : Nat} {l1 : Int64} {l3 : Int64} {u : CSt}  : KV (F_X9_takeBounded N l1 l3 u) u := by
  unfold F_X9_takeBounded
  exact kv_B_X9_takeBounded_0.tr jv_rf
theorem kv_B_X9_takeKind_0 {N : Nat} {u : CSt}  : KV (B_X9_takeKind_0 N u) u := by
  unfold B_X9_takeKind_0
  refine KV_rd (fun _ => ?_)
  refine KV_bc (kv_F_X9_next.tr jv_rf) (fun _ _ => ?_)
  exact KV_some jv_rf
theorem kv_F_X9_takeKind {N : Nat} {u : CSt}  : KV (F_X9_takeKind N u) u := by
  unfold F_X9_takeKind
  exact kv_B_X9_takeKind_0.tr jv_rf
theorem kv_B_X9_byteAt_0 {N : Nat} {l1 : Int32} {u : CSt}  : KV (B_X9_byteAt_0 N l1 u) u := by
  unfold B_X9_byteAt_0
  refine KV_if ?_ ?_
  · skip
    exact KV_some jv_rf
  · skip
    refine KV_if ?_ ?_
    · skip
      exact KV_some jv_rf
    · skip
      refine KV_if ?_ ?_
      · skip
        exact KV_some jv_rf
      · skip
        refine KV_rd (fun _ => ?_)
        exact KV_some jv_rf
theorem kv_F_X9_byteAt {N : Nat} {l1 : Int32} {u : CSt}  : KV (F_X9_byteAt N l1 u) u := by
  unfold F_X9_byteAt
  exact kv_B_X9_byteAt_0.tr jv_rf
theorem kv_B_X9_behindGap_93 {N : Nat} {R_4 : Int32 × Int32 × CSt → Option (Int32 × CSt)} {l2 : Int32} {l3 : Int32} {u : CSt} (h_R_4 : ∀ a, KV (R_4 a) a.2.2) : KV (B_X9_behindGap_93 N R_4 l2 l3 u) u := by
  unfold B_X9_behindGap_93
  exact (h_R_4 _).tr jv_rf
theorem kv_B_X9_behindGap_35 {N : Nat} {R_4 : Int32 × Int32 × CSt → Option (Int32 × CSt)} {l3 : Int32} {s0 : Int32} {u : CSt} (h_R_4 : ∀ a, KV (R_4 a) a.2.2) : KV (B_X9_behindGap_35 N R_4 l3 s0 u) u := by
  unfold B_X9_behindGap_35
  exact (kv_B_X9_behindGap_93 h_R_4).tr jv_rf
theorem kv_B_X9_behindGap_63 {N : Nat} {R_4 : Int32 × Int32 × CSt → Option (Int32 × CSt)} {l2 : Int32} {l3 : Int32} {l4 : Int32} {u : CSt} (h_R_4 : ∀ a, KV (R_4 a) a.2.2) : KV (B_X9_behindGap_63 N R_4 l2 l3 l4 u) u := by
  unfold B_X9_behindGap_63
  refine KV_if ?_ ?_
  · skip
    exact (kv_B_X9_behindGap_93 h_R_4).tr jv_rf
  · skip
    refine KV_if ?_ ?_
    · skip
      exact (kv_B_X9_behindGap_93 h_R_4).tr jv_rf
    · skip
      refine KV_if ?_ ?_
      · skip
        exact (kv_B_X9_behindGap_93 h_R_4).tr jv_rf
      · skip
        refine KV_if ?_ ?_
        · skip
          exact (kv_B_X9_behindGap_93 h_R_4).tr jv_rf
        · skip
          exact KV_some jv_rf
theorem kv_B_X9_behindGap_4 {N : Nat} {R_4 : Int32 × Int32 × CSt → Option (Int32 × CSt)} {l2 : Int32} {l3 : Int32} {u : CSt} (h_R_4 : ∀ a, KV (R_4 a) a.2.2) : KV (B_X9_behindGap_4 N R_4 l2 l3 u) u := by
  unfold B_X9_behindGap_4
  refine KV_if ?_ ?_
  · skip
    exact KV_some jv_rf
  · skip
    refine KV_bc (kv_F_X9_byteAt.tr jv_rf) (fun _ _ => ?_)
    refine KV_if ?_ ?_
    · skip
      refine KV_if ?_ ?_
      · skip
        refine KV_bc (kv_F_X9_byteAt.tr jv_rf) (fun _ _ => ?_)
        refine KV_if ?_ ?_
        · skip
          exact (kv_B_X9_behindGap_93 h_R_4).tr jv_rf
        · skip
          exact (kv_B_X9_behindGap_63 h_R_4).tr jv_rf
      · skip
        exact (kv_B_X9_behindGap_63 h_R_4).tr jv_rf
    · skip
      refine KV_if ?_ ?_
      · skip
        exact (kv_B_X9_behindGap_35 h_R_4).tr jv_rf
      · skip
        exact (kv_B_X9_behindGap_35 h_R_4).tr jv_rf
theorem kv_LP_X9_behindGap_4 {N : Nat}  (n : Nat) : ∀ a : Int32 × Int32 × CSt, KV (LP_X9_behindGap_4 N n a) a.2.2 := by
  induction n with
  | zero => exact fun a r z e => by have e : (none : Option _) = some (r, z) := e; cases e
  | succ n ih =>
    intro a
    show KV (B_X9_behindGap_4 N (LP_X9_behindGap_4 N n) a.1 a.2.1 a.2.2) a.2.2
    exact kv_B_X9_behindGap_4 ih
theorem kv_B_X9_behindGap_0 {N : Nat} {l1 : Int32} {u : CSt}  : KV (B_X9_behindGap_0 N l1 u) u := by
  unfold B_X9_behindGap_0
  exact (kv_LP_X9_behindGap_4  _ _).tr jv_rf
theorem kv_F_X9_behindGap {N : Nat} {l1 : Int32} {u : CSt}  : KV (F_X9_behindGap N l1 u) u := by
  unfold F_X9_behindGap
  exact kv_B_X9_behindGap_0.tr jv_rf
theorem kv_B_X9_put_0 {N : Nat} {l1 : Int32} {l2 : Int64} {l4 : Int32} {u : CSt}  : KV (B_X9_put_0 N l1 l2 l4 u) u := by
  unfold B_X9_put_0
  refine KV_wc ?_
  refine KV_wc ?_
  refine KV_wc ?_
  exact KV_some (fv_xA (by first | decide | (refine ⟨?_, ?_⟩ <;> omega)) (fv_xB (fv_xA (by first | decide | (refine ⟨?_, ?_⟩ <;> omega)) jv_rf)))
theorem kv_F_X9_put {N : Nat} {l1 : Int32} {l2 : Int64} {l4 : Int32} {u : CSt}  : KV (F_X9_put N l1 l2 l4 u) u := by
  unfold F_X9_put
  exact kv_B_X9_put_0.tr jv_rf
theorem kv_B_X9_closeWith_0 {N : Nat} {l1 : Int32} {l2 : Int32} {u : CSt}  : KV (B_X9_closeWith_0 N l1 l2 u) u := by
  unfold B_X9_closeWith_0
  refine KV_bc (kv_F_X9_put.tr jv_rf) (fun _ _ => ?_)
  refine KV_wc ?_
  exact KV_some (fv_xA (by first | decide | (refine ⟨?_, ?_⟩ <;> omega)) jv_rf)
theorem kv_F_X9_closeWith {N : Nat} {l1 : Int32} {l2 : Int32} {u : CSt}  : KV (F_X9_closeWith N l1 l2 u) u := by
  unfold F_X9_closeWith
  exact kv_B_X9_closeWith_0.tr jv_rf
theorem kv_B_X9_isWord_20 {N : Nat} {R_20 : Int32 × Int32 × CSt → Option (Int32 × CSt)} {l1 : Int32} {l2 : Int32} {u : CSt} (h_R_20 : ∀ a, KV (R_20 a) a.2.2) : KV (B_X9_isWord_20 N R_20 l1 l2 u) u := by
  unfold B_X9_isWord_20
  refine KV_if ?_ ?_
  · skip
    exact KV_some jv_rf
  · skip
    refine KV_bc (kv_F_X9_byteAt.tr jv_rf) (fun _ _ => ?_)
    refine KV_pb (fun _ => ?_)
    refine KV_if ?_ ?_
    · skip
      exact KV_some jv_rf
    · skip
      exact (h_R_20 _).tr jv_rf
theorem kv_LP_X9_isWord_20 {N : Nat}  (n : Nat) : ∀ a : Int32 × Int32 × CSt, KV (LP_X9_isWord_20 N n a) a.2.2 := by
  induction n with
  | zero => exact fun a r z e => by have e : (none : Option _) = some (r, z) := e; cases e
  | succ n ih =>
    intro a
    show KV (B_X9_isWord_20 N (LP_X9_isWord_20 N n) a.1 a.2.1 a.2.2) a.2.2
    exact kv_B_X9_isWord_20 ih
theorem kv_B_X9_isWord_0 {N : Nat} {l1 : Int32} {u : CSt}  : KV (B_X9_isWord_0 N l1 u) u := by
  unfold B_X9_isWord_0
  refine KV_pc ?_
  refine KV_if ?_ ?_
  · skip
    exact KV_some (fv_xI (by first | decide | (refine ⟨?_, ?_⟩ <;> omega)) jv_rf)
  · skip
    refine KV_if ?_ ?_
    · skip
      exact (kv_LP_X9_isWord_20  _ _).tr (fv_xI (by first | decide | (refine ⟨?_, ?_⟩ <;> omega)) jv_rf)
    · skip
      exact KV_some (fv_xI (by first | decide | (refine ⟨?_, ?_⟩ <;> omega)) jv_rf)
theorem kv_F_X9_isWord {N : Nat} {l1 : Int32} {u : CSt}  : KV (F_X9_isWord N l1 u) u := by
  unfold F_X9_isWord
  exact kv_B_X9_isWord_0.tr jv_rf
theorem kv_B_X9_wordHead_5 {N : Nat} {R_5 : Int32 × Int32 × Int64 × Int32 × CSt → Option (Int64 × CSt)} {l1 : Int32} {l2 : Int32} {l3 : Int64} {l5 : Int32} {u : CSt} (h_R_5 : ∀ a, KV (R_5 a) a.2.2.2.2) : KV (B_X9_wordHead_5 N R_5 l1 l2 l3 l5 u) u := by
  unfold B_X9_wordHead_5
  refine KV_if ?_ ?_
  · skip
    exact KV_some jv_rf
  · skip
    refine KV_if ?_ ?_
    · skip
      exact KV_some jv_rf
    · skip
      refine KV_bc (kv_F_X9_byteAt.tr jv_rf) (fun _ _ => ?_)
      exact (h_R_5 _).tr jv_rf
theorem kv_LP_X9_wordHead_5 {N : Nat}  (n : Nat) : ∀ a : Int32 × Int32 × Int64 × Int32 × CSt, KV (LP_X9_wordHead_5 N n a) a.2.2.2.2 := by
  induction n with
  | zero => exact fun a r z e => by have e : (none : Option _) = some (r, z) := e; cases e
  | succ n ih =>
    intro a
    show KV (B_X9_wordHead_5 N (LP_X9_wordHead_5 N n) a.1 a.2.1 a.2.2.1 a.2.2.2.1 a.2.2.2.2) a.2.2.2.2
    exact kv_B_X9_wordHead_5 ih
theorem kv_B_X9_wordHead_0 {N : Nat} {l1 : Int32} {l2 : Int32} {u : CSt}  : KV (B_X9_wordHead_0 N l1 l2 u) u := by
  unfold B_X9_wordHead_0
  exact (kv_LP_X9_wordHead_5  _ _).tr jv_rf
theorem kv_F_X9_wordHead {N : Nat} {l1 : Int32} {l2 : Int32} {u : CSt}  : KV (F_X9_wordHead N l1 l2 u) u := by
  unfold F_X9_wordHead
  exact kv_B_X9_wordHead_0.tr jv_rf
theorem kv_B_X9_wordTail_8 {N : Nat} {R_8 : Int32 × Int32 × Int32 × CSt → Option (Int32 × CSt)} {l2 : Int32} {l3 : Int32} {l4 : Int32} {u : CSt} (h_R_8 : ∀ a, KV (R_8 a) a.2.2.2) : KV (B_X9_wordTail_8 N R_8 l2 l3 l4 u) u := by
  unfold B_X9_wordTail_8
  refine KV_if ?_ ?_
  · skip
    exact KV_some jv_rf
  · skip
    refine KV_bc (kv_F_X9_byteAt.tr jv_rf) (fun _ _ => ?_)
    exact (h_R_8 _).tr jv_rf
theorem kv_LP_X9_wordTail_8 {N : Nat}  (n : Nat) : ∀ a : Int32 × Int32 × Int32 × CSt, KV (LP_X9_wordTail_8 N n a) a.2.2.2 := by
  induction n with
  | zero => exact fun a r z e => by have e : (none : Option _) = some (r, z) := e; cases e
  | succ n ih =>
    intro a
    show KV (B_X9_wordTail_8 N (LP_X9_wordTail_8 N n) a.1 a.2.1 a.2.2.1 a.2.2.2) a.2.2.2
    exact kv_B_X9_wordTail_8 ih
theorem kv_B_X9_wordTail_0 {N : Nat} {l1 : Int32} {l2 : Int32} {u : CSt}  : KV (B_X9_wordTail_0 N l1 l2 u) u := by
  unfold B_X9_wordTail_0
  exact (kv_LP_X9_wordTail_8  _ _).tr jv_rf
theorem kv_F_X9_wordTail {N : Nat} {l1 : Int32} {l2 : Int32} {u : CSt}  : KV (F_X9_wordTail N l1 l2 u) u := by
  unfold F_X9_wordTail
  exact kv_B_X9_wordTail_0.tr jv_rf
theorem kv_B_X9_wordType_2 {N : Nat} {R_2 : Int64 × Int32 × CSt → Option (Int32 × CSt)} {l1 : Int64} {l3 : Int32} {u : CSt} (h_R_2 : ∀ a, KV (R_2 a) a.2.2) : KV (B_X9_wordType_2 N R_2 l1 l3 u) u := by
  unfold B_X9_wordType_2
  refine KV_if ?_ ?_
  · skip
    exact KV_some jv_rf
  · skip
    refine KV_rd (fun _ => ?_)
    refine KV_if ?_ ?_
    · skip
      exact KV_some jv_rf
    · skip
      exact (h_R_2 _).tr jv_rf
theorem kv_LP_X9_wordType_2 {N : Nat}  (n : Nat) : ∀ a : Int64 × Int32 × CSt, KV (LP_X9_wordType_2 N n a) a.2.2 := by
  induction n with
  | zero => exact fun a r z e => by have e : (none : Option _) = some (r, z) := e; cases e
  | succ n ih =>
    intro a
    show KV (B_X9_wordType_2 N (LP_X9_wordType_2 N n) a.1 a.2.1 a.2.2) a.2.2
    exact kv_B_X9_wordType_2 ih
theorem kv_B_X9_wordType_0 {N : Nat} {l1 : Int64} {u : CSt}  : KV (B_X9_wordType_0 N l1 u) u := by
  unfold B_X9_wordType_0
  exact (kv_LP_X9_wordType_2  _ _).tr jv_rf
theorem kv_F_X9_wordType {N : Nat} {l1 : Int64} {u : CSt}  : KV (F_X9_wordType N l1 u) u := by
  unfold F_X9_wordType
  exact kv_B_X9_wordType_0.tr jv_rf
theorem kv_B_X9_readWord_69 {N : Nat} {l2 : Int32} {l3 : Int64} {l5 : Int32} {s1 : Int32} {u : CSt}  : KV (B_X9_readWord_69 N l2 l3 l5 s1 u) u := by
  unfold B_X9_readWord_69
  refine KV_bc (kv_F_X9_put.tr jv_rf) (fun _ _ => ?_)
  exact KV_some jv_rf
theorem kv_B_X9_readWord_27 {N : Nat} {l1 : Int32} {l2 : Int32} {u : CSt}  : KV (B_X9_readWord_27 N l1 l2 u) u := by
  unfold B_X9_readWord_27
  refine KV_if ?_ ?_
  · skip
    refine KV_bc (kv_F_X9_wordHead.tr jv_rf) (fun _ _ => ?_)
    refine KV_bc (kv_F_X9_wordTail.tr jv_rf) (fun _ _ => ?_)
    refine KV_if ?_ ?_
    · skip
      refine KV_bc (kv_F_X9_wordType.tr jv_rf) (fun _ _ => ?_)
      exact kv_B_X9_readWord_69.tr jv_rf
    · skip
      exact kv_B_X9_readWord_69.tr jv_rf
  · skip
    exact KV_some jv_rf
theorem kv_B_X9_readWord_2 {N : Nat} {R_2 : Int32 × Int32 × CSt → Option (Int32 × CSt)} {l1 : Int32} {l2 : Int32} {u : CSt} (h_R_2 : ∀ a, KV (R_2 a) a.2.2) : KV (B_X9_readWord_2 N R_2 l1 l2 u) u := by
  unfold B_X9_readWord_2
  refine KV_if ?_ ?_
  · skip
    exact kv_B_X9_readWord_27.tr jv_rf
  · skip
    refine KV_bc (kv_F_X9_byteAt.tr jv_rf) (fun _ _ => ?_)
    refine KV_pb (fun _ => ?_)
    refine KV_if ?_ ?_
    · skip
      exact kv_B_X9_readWord_27.tr jv_rf
    · skip
      exact (h_R_2 _).tr jv_rf
theorem kv_LP_X9_readWord_2 {N : Nat}  (n : Nat) : ∀ a : Int32 × Int32 × CSt, KV (LP_X9_readWord_2 N n a) a.2.2 := by
  induction n with
  | zero => exact fun a r z e => by have e : (none : Option _) = some (r, z) := e; cases e
  | succ n ih =>
    intro a
    show KV (B_X9_readWord_2 N (LP_X9_readWord_2 N n) a.1 a.2.1 a.2.2) a.2.2
    exact kv_B_X9_readWord_2 ih
theorem kv_B_X9_readWord_0 {N : Nat} {l1 : Int32} {u : CSt}  : KV (B_X9_readWord_0 N l1 u) u := by
  unfold B_X9_readWord_0
  exact (kv_LP_X9_readWord_2  _ _).tr jv_rf
theorem kv_F_X9_readWord {N : Nat} {l1 : Int32} {u : CSt}  : KV (F_X9_readWord N l1 u) u := by
  unfold F_X9_readWord
  exact kv_B_X9_readWord_0.tr jv_rf
theorem kv_B_X9_hexBits_5 {N : Nat} {R_5 : Int32 × Int64 × Int32 × CSt → Option (Int64 × CSt)} {l2 : Int32} {l3 : Int64} {l5 : Int32} {u : CSt} (h_R_5 : ∀ a, KV (R_5 a) a.2.2.2) : KV (B_X9_hexBits_5 N R_5 l2 l3 l5 u) u := by
  unfold B_X9_hexBits_5
  refine KV_if ?_ ?_
  · skip
    exact KV_some jv_rf
  · skip
    refine KV_bc (kv_F_X9_byteAt.tr jv_rf) (fun _ _ => ?_)
    refine KV_pb (fun _ => ?_)
    exact (h_R_5 _).tr jv_rf
theorem kv_LP_X9_hexBits_5 {N : Nat}  (n : Nat) : ∀ a : Int32 × Int64 × Int32 × CSt, KV (LP_X9_hexBits_5 N n a) a.2.2.2 := by
  induction n with
  | zero => exact fun a r z e => by have e : (none : Option _) = some (r, z) := e; cases e
  | succ n ih =>
    intro a
    show KV (B_X9_hexBits_5 N (LP_X9_hexBits_5 N n) a.1 a.2.1 a.2.2.1 a.2.2.2) a.2.2.2
    exact kv_B_X9_hexBits_5 ih
theorem kv_B_X9_hexBits_0 {N : Nat} {l1 : Int32} {l2 : Int32} {u : CSt}  : KV (B_X9_hexBits_0 N l1 l2 u) u := by
  unfold B_X9_hexBits_0
  exact (kv_LP_X9_hexBits_5  _ _).tr jv_rf
theorem kv_F_X9_hexBits {N : Nat} {l1 : Int32} {l2 : Int32} {u : CSt}  : KV (F_X9_hexBits N l1 l2 u) u := by
  unfold F_X9_hexBits
  exact kv_B_X9_hexBits_0.tr jv_rf
theorem kv_B_X9_decimal_5 {N : Nat} {R_5 : Int32 × Int64 × Int32 × CSt → Option (Int64 × CSt)} {l2 : Int32} {l3 : Int64} {l5 : Int32} {u : CSt} (h_R_5 : ∀ a, KV (R_5 a) a.2.2.2) : KV (B_X9_decimal_5 N R_5 l2 l3 l5 u) u := by
  unfold B_X9_decimal_5
  refine KV_if ?_ ?_
  · skip
    exact KV_some jv_rf
  · skip
    refine KV_bc (kv_F_X9_byteAt.tr jv_rf) (fun _ _ => ?_)
    refine KV_pb (fun _ => ?_)
    exact (h_R_5 _).tr jv_rf
theorem kv_LP_X9_decimal_5 {N : Nat}  (n : Nat) : ∀ a : Int32 × Int64 × Int32 × CSt, KV (LP_X9_decimal_5 N n a) a.2.2.2 := by
  induction n with
  | zero => exact fun a r z e => by have e : (none : Option _) = some (r, z) := e; cases e
  | succ n ih =>
    intro a
    show KV (B_X9_decimal_5 N (LP_X9_decimal_5 N n) a.1 a.2.1 a.2.2.1 a.2.2.2) a.2.2.2
    exact kv_B_X9_decimal_5 ih
theorem kv_B_X9_decimal_0 {N : Nat} {l1 : Int32} {l2 : Int32} {u : CSt}  : KV (B_X9_decimal_0 N l1 l2 u) u := by
  unfold B_X9_decimal_0
  exact (kv_LP_X9_decimal_5  _ _).tr jv_rf
theorem kv_F_X9_decimal {N : Nat} {l1 : Int32} {l2 : Int32} {u : CSt}  : KV (F_X9_decimal N l1 l2 u) u := by
  unfold F_X9_decimal
  exact kv_B_X9_decimal_0.tr jv_rf
theorem kv_B_X9_readNumber_211 {N : Nat} {l6 : Int32} {l8 : Int32} {s1 : Int32} {s2 : Int64} {u : CSt}  : KV (B_X9_readNumber_211 N l6 l8 s1 s2 u) u := by
  unfold B_X9_readNumber_211
  refine KV_bc (kv_F_X9_put.tr jv_rf) (fun _ _ => ?_)
  exact KV_some jv_rf
theorem kv_B_X9_readNumber_276 {N : Nat} {l6 : Int32} {s1 : Int32} {s2 : Int64} {s3 : Int32} {u : CSt}  : KV (B_X9_readNumber_276 N l6 s1 s2 s3 u) u := by
  unfold B_X9_readNumber_276
  refine KV_bc (kv_F_X9_put.tr jv_rf) (fun _ _ => ?_)
  exact KV_some jv_rf
theorem kv_B_X9_readNumber_254 {N : Nat} {l6 : Int32} {l8 : Int32} {l9 : Int64} {s0 : Int32} {u : CSt}  : KV (B_X9_readNumber_254 N l6 l8 l9 s0 u) u := by
  unfold B_X9_readNumber_254
  refine KV_if ?_ ?_
  · skip
    exact kv_B_X9_readNumber_276.tr jv_rf
  · skip
    exact kv_B_X9_readNumber_276.tr jv_rf
theorem kv_B_X9_readNumber_249 {N : Nat} {l6 : Int32} {l8 : Int32} {l9 : Int64} {u : CSt}  : KV (B_X9_readNumber_249 N l6 l8 l9 u) u := by
  unfold B_X9_readNumber_249
  exact kv_B_X9_readNumber_254.tr jv_rf
theorem kv_B_X9_readNumber_253 {N : Nat} {l6 : Int32} {l8 : Int32} {l9 : Int64} {u : CSt}  : KV (B_X9_readNumber_253 N l6 l8 l9 u) u := by
  unfold B_X9_readNumber_253
  exact kv_B_X9_readNumber_254.tr jv_rf
theorem kv_B_X9_readNumber_178 {N : Nat} {l2 : Int32} {l3 : Int32} {l4 : Int32} {l5 : Int32} {l6 : Int32} {s0 : Int32} {u : CSt}  : KV (B_X9_readNumber_178 N l2 l3 l4 l5 l6 s0 u) u := by
  unfold B_X9_readNumber_178
  refine KV_if ?_ ?_
  · skip
    refine KV_bc (kv_F_X9_decimal.tr jv_rf) (fun _ _ => ?_)
    refine KV_if ?_ ?_
    · skip
      exact kv_B_X9_readNumber_249.tr jv_rf
    · skip
      refine KV_if ?_ ?_
      · skip
        refine KV_if ?_ ?_
        · skip
          exact kv_B_X9_readNumber_253.tr jv_rf
        · skip
          exact kv_B_X9_readNumber_249.tr jv_rf
      · skip
        exact kv_B_X9_readNumber_253.tr jv_rf
  · skip
    refine KV_bc (kv_F_X9_hexBits.tr jv_rf) (fun _ _ => ?_)
    refine KV_if ?_ ?_
    · skip
      exact kv_B_X9_readNumber_211.tr jv_rf
    · skip
      exact kv_B_X9_readNumber_211.tr jv_rf
theorem kv_B_X9_readNumber_137 {N : Nat} {l2 : Int32} {l3 : Int32} {l4 : Int32} {l5 : Int32} {l6 : Int32} {s0 : Int32} {u : CSt}  : KV (B_X9_readNumber_137 N l2 l3 l4 l5 l6 s0 u) u := by
  unfold B_X9_readNumber_137
  refine KV_if ?_ ?_
  · skip
    exact KV_some jv_rf
  · skip
    refine KV_if ?_ ?_
    · skip
      exact KV_some jv_rf
    · skip
      refine KV_bc (kv_F_X9_byteAt.tr jv_rf) (fun _ _ => ?_)
      refine KV_pb (fun _ => ?_)
      refine KV_if ?_ ?_
      · skip
        refine KV_if ?_ ?_
        · skip
          exact kv_B_X9_readNumber_178.tr jv_rf
        · skip
          exact kv_B_X9_readNumber_178.tr jv_rf
      · skip
        exact KV_some jv_rf
theorem kv_B_X9_readNumber_104 {N : Nat} {l2 : Int32} {l3 : Int32} {l4 : Int32} {l5 : Int32} {s0 : Int32} {u : CSt}  : KV (B_X9_readNumber_104 N l2 l3 l4 l5 s0 u) u := by
  unfold B_X9_readNumber_104
  refine KV_if ?_ ?_
  · skip
    refine KV_if ?_ ?_
    · skip
      exact kv_B_X9_readNumber_137.tr jv_rf
    · skip
      exact kv_B_X9_readNumber_137.tr jv_rf
  · skip
    refine KV_if ?_ ?_
    · skip
      exact kv_B_X9_readNumber_137.tr jv_rf
    · skip
      exact kv_B_X9_readNumber_137.tr jv_rf
theorem kv_B_X9_readNumber_88 {N : Nat} {l2 : Int32} {l3 : Int32} {l4 : Int32} {s0 : Int32} {u : CSt}  : KV (B_X9_readNumber_88 N l2 l3 l4 s0 u) u := by
  unfold B_X9_readNumber_88
  refine KV_if ?_ ?_
  · skip
    exact kv_B_X9_readNumber_104.tr jv_rf
  · skip
    exact kv_B_X9_readNumber_104.tr jv_rf
theorem kv_B_X9_readNumber_72 {N : Nat} {l2 : Int32} {l3 : Int32} {l4 : Int32} {u : CSt}  : KV (B_X9_readNumber_72 N l2 l3 l4 u) u := by
  unfold B_X9_readNumber_72
  refine KV_bc (kv_F_X9_byteAt.tr jv_rf) (fun _ _ => ?_)
  refine KV_if ?_ ?_
  · skip
    exact kv_B_X9_readNumber_88.tr jv_rf
  · skip
    exact kv_B_X9_readNumber_88.tr jv_rf
theorem kv_B_X9_readNumber_43 {N : Nat} {R_43 : Int32 × Int32 × Int32 × CSt → Option (Int32 × CSt)} {l2 : Int32} {l3 : Int32} {l4 : Int32} {u : CSt} (h_R_43 : ∀ a, KV (R_43 a) a.2.2.2) : KV (B_X9_readNumber_43 N R_43 l2 l3 l4 u) u := by
  unfold B_X9_readNumber_43
  refine KV_if ?_ ?_
  · skip
    exact kv_B_X9_readNumber_72.tr jv_rf
  · skip
    refine KV_bc (kv_F_X9_byteAt.tr jv_rf) (fun _ _ => ?_)
    refine KV_pb (fun _ => ?_)
    refine KV_if ?_ ?_
    · skip
      exact kv_B_X9_readNumber_72.tr jv_rf
    · skip
      exact (h_R_43 _).tr jv_rf
theorem kv_LP_X9_readNumber_43 {N : Nat}  (n : Nat) : ∀ a : Int32 × Int32 × Int32 × CSt, KV (LP_X9_readNumber_43 N n a) a.2.2.2 := by
  induction n with
  | zero => exact fun a r z e => by have e : (none : Option _) = some (r, z) := e; cases e
  | succ n ih =>
    intro a
    show KV (B_X9_readNumber_43 N (LP_X9_readNumber_43 N n) a.1 a.2.1 a.2.2.1 a.2.2.2) a.2.2.2
    exact kv_B_X9_readNumber_43 ih
theorem kv_B_X9_readNumber_39 {N : Nat} {l2 : Int32} {s0 : Int32} {u : CSt}  : KV (B_X9_readNumber_39 N l2 s0 u) u := by
  unfold B_X9_readNumber_39
  exact (kv_LP_X9_readNumber_43  _ _).tr jv_rf
theorem kv_B_X9_readNumber_27 {N : Nat} {l1 : Int32} {s0 : Int32} {u : CSt}  : KV (B_X9_readNumber_27 N l1 s0 u) u := by
  unfold B_X9_readNumber_27
  refine KV_if ?_ ?_
  · skip
    exact kv_B_X9_readNumber_39.tr jv_rf
  · skip
    exact kv_B_X9_readNumber_39.tr jv_rf
theorem kv_B_X9_readNumber_26 {N : Nat} {l1 : Int32} {u : CSt}  : KV (B_X9_readNumber_26 N l1 u) u := by
  unfold B_X9_readNumber_26
  exact kv_B_X9_readNumber_27.tr jv_rf
theorem kv_B_X9_readNumber_0 {N : Nat} {l1 : Int32} {u : CSt}  : KV (B_X9_readNumber_0 N l1 u) u := by
  unfold B_X9_readNumber_0
  refine KV_bc (kv_F_X9_byteAt.tr jv_rf) (fun _ _ => ?_)
  refine KV_if ?_ ?_
  · skip
    refine KV_bc (kv_F_X9_byteAt.tr jv_rf) (fun _ _ => ?_)
    refine KV_if ?_ ?_
    · skip
      exact kv_B_X9_readNumber_27.tr jv_rf
    · skip
      exact kv_B_X9_readNumber_26.tr jv_rf
  · skip
    exact kv_B_X9_readNumber_26.tr jv_rf
theorem kv_F_X9_readNumber {N : Nat} {l1 : Int32} {u : CSt}  : KV (F_X9_readNumber N l1 u) u := by
  unfold F_X9_readNumber
  exact kv_B_X9_readNumber_0.tr jv_rf
theorem kv_B_X9_readCharacter_0 {N : Nat} {l1 : Int32} {u : CSt}  : KV (B_X9_readCharacter_0 N l1 u) u := by
  unfold B_X9_readCharacter_0
  refine KV_bc (kv_F_X9_byteAt.tr jv_rf) (fun _ _ => ?_)
  refine KV_if ?_ ?_
  · skip
    exact KV_some jv_rf
  · skip
    refine KV_if ?_ ?_
    · skip
      exact KV_some jv_rf
    · skip
      refine KV_bc (kv_F_X9_byteAt.tr jv_rf) (fun _ _ => ?_)
      refine KV_if ?_ ?_
      · skip
        refine KV_bc (kv_F_X9_put.tr jv_rf) (fun _ _ => ?_)
        exact KV_some jv_rf
      · skip
        exact KV_some jv_rf
theorem kv_F_X9_readCharacter {N : Nat} {l1 : Int32} {u : CSt}  : KV (F_X9_readCharacter N l1 u) u := by
  unfold F_X9_readCharacter
  exact kv_B_X9_readCharacter_0.tr jv_rf
theorem kv_B_X9_readSign_98 {N : Nat} {l1 : Int32} {l3 : Int32} {l4 : Int32} {u : CSt}  : KV (B_X9_readSign_98 N l1 l3 l4 u) u := by
  unfold B_X9_readSign_98
  refine KV_bc (kv_F_X9_put.tr jv_rf) (fun _ _ => ?_)
  exact KV_some jv_rf
theorem kv_B_X9_readSign_65 {N : Nat} {l1 : Int32} {l2 : Int32} {l3 : Int32} {l4 : Int32} {u : CSt}  : KV (B_X9_readSign_65 N l1 l2 l3 l4 u) u := by
  unfold B_X9_readSign_65
  refine KV_bc (kv_F_X9_byteAt.tr jv_rf) (fun _ _ => ?_)
  refine KV_if ?_ ?_
  · skip
    refine KV_pb (fun _ => ?_)
    refine KV_if ?_ ?_
    · skip
      exact kv_B_X9_readSign_98.tr jv_rf
    · skip
      exact kv_B_X9_readSign_98.tr jv_rf
  · skip
    exact kv_B_X9_readSign_98.tr jv_rf
theorem kv_B_X9_readSign_33 {N : Nat} {R_33 : Int32 × Int32 × Int32 × Int32 × Int32 × CSt → Option (Int32 × CSt)} {l1 : Int32} {l2 : Int32} {l3 : Int32} {l4 : Int32} {l5 : Int32} {u : CSt} (h_R_33 : ∀ a, KV (R_33 a) a.2.2.2.2.2) : KV (B_X9_readSign_33 N R_33 l1 l2 l3 l4 l5 u) u := by
  unfold B_X9_readSign_33
  refine KV_if ?_ ?_
  · skip
    exact kv_B_X9_readSign_65.tr jv_rf
  · skip
    refine KV_bc (kv_F_X9_byteAt.tr jv_rf) (fun _ _ => ?_)
    refine KV_if ?_ ?_
    · skip
      exact (h_R_33 _).tr jv_rf
    · skip
      exact kv_B_X9_readSign_65.tr jv_rf
theorem kv_LP_X9_readSign_33 {N : Nat}  (n : Nat) : ∀ a : Int32 × Int32 × Int32 × Int32 × Int32 × CSt, KV (LP_X9_readSign_33 N n a) a.2.2.2.2.2 := by
  induction n with
  | zero => exact fun a r z e => by have e : (none : Option _) = some (r, z) := e; cases e
  | succ n ih =>
    intro a
    show KV (B_X9_readSign_33 N (LP_X9_readSign_33 N n) a.1 a.2.1 a.2.2.1 a.2.2.2.1 a.2.2.2.2.1 a.2.2.2.2.2) a.2.2.2.2.2
    exact kv_B_X9_readSign_33 ih
theorem kv_B_X9_readSign_0 {N : Nat} {l1 : Int32} {u : CSt}  : KV (B_X9_readSign_0 N l1 u) u := by
  unfold B_X9_readSign_0
  refine KV_bc (kv_F_X9_byteAt.tr jv_rf) (fun _ _ => ?_)
  refine KV_if ?_ ?_
  · skip
    exact KV_some jv_rf
  · skip
    refine KV_if ?_ ?_
    · skip
      refine KV_pb (fun _ => ?_)
      exact (kv_LP_X9_readSign_33  _ _).tr jv_rf
    · skip
      exact KV_some jv_rf
theorem kv_F_X9_readSign {N : Nat} {l1 : Int32} {u : CSt}  : KV (F_X9_readSign N l1 u) u := by
  unfold F_X9_readSign
  exact kv_B_X9_readSign_0.tr jv_rf
theorem kv_B_X9_readToken_34 {N : Nat} {l1 : Int32} {l2 : Int32} {u : CSt}  : KV (B_X9_readToken_34 N l1 l2 u) u := by
  unfold B_X9_readToken_34
  refine KV_pb (fun _ => ?_)
  refine KV_if ?_ ?_
  · skip
    refine KV_if ?_ ?_
    · skip
      refine KV_bc (kv_F_X9_readCharacter.tr jv_rf) (fun _ _ => ?_)
      exact KV_some jv_rf
    · skip
      refine KV_bc (kv_F_X9_readSign.tr jv_rf) (fun _ _ => ?_)
      exact KV_some jv_rf
  · skip
    refine KV_bc (kv_F_X9_readWord.tr jv_rf) (fun _ _ => ?_)
    exact KV_some jv_rf
theorem kv_B_X9_readToken_0 {N : Nat} {l1 : Int32} {u : CSt}  : KV (B_X9_readToken_0 N l1 u) u := by
  unfold B_X9_readToken_0
  refine KV_bc (kv_F_X9_byteAt.tr jv_rf) (fun _ _ => ?_)
  refine KV_wc ?_
  refine KV_if ?_ ?_
  · skip
    exact kv_B_X9_readToken_34.tr (fv_xA (by first | decide | (refine ⟨?_, ?_⟩ <;> omega)) jv_rf)
  · skip
    refine KV_if ?_ ?_
    · skip
      exact kv_B_X9_readToken_34.tr (fv_xA (by first | decide | (refine ⟨?_, ?_⟩ <;> omega)) jv_rf)
    · skip
      refine KV_bc (kv_F_X9_readNumber.tr (fv_xA (by first | decide | (refine ⟨?_, ?_⟩ <;> omega)) jv_rf)) (fun _ _ => ?_)
      exact KV_some jv_rf
theorem kv_F_X9_readToken {N : Nat} {l1 : Int32} {u : CSt}  : KV (F_X9_readToken N l1 u) u := by
  unfold F_X9_readToken
  exact kv_B_X9_readToken_0.tr jv_rf
theorem kv_B_X9_read_132 {N : Nat} {l2 : Int32} {s1 : Int32} {u : CSt}  : KV (B_X9_read_132 N l2 s1 u) u := by
  unfold B_X9_read_132
  refine KV_bc (kv_F_X9_closeWith.tr jv_rf) (fun _ _ => ?_)
  exact KV_some jv_rf
theorem kv_B_X9_read_93 {N : Nat} {l2 : Int32} {u : CSt}  : KV (B_X9_read_93 N l2 u) u := by
  unfold B_X9_read_93
  refine KV_if ?_ ?_
  · skip
    refine KV_bc (kv_F_X9_readToken.tr jv_rf) (fun _ _ => ?_)
    refine KV_if ?_ ?_
    · skip
      exact kv_B_X9_read_132.tr jv_rf
    · skip
      exact kv_B_X9_read_132.tr jv_rf
  · skip
    refine KV_bc (kv_F_X9_closeWith.tr jv_rf) (fun _ _ => ?_)
    exact KV_some jv_rf
theorem kv_B_X9_read_33 {N : Nat} {R_33 : Int32 × Int32 × CSt → Option (Int32 × CSt)} {l2 : Int32} {l3 : Int32} {u : CSt} (h_R_33 : ∀ a, KV (R_33 a) a.2.2) : KV (B_X9_read_33 N R_33 l2 l3 u) u := by
  unfold B_X9_read_33
  refine KV_if ?_ ?_
  · skip
    exact kv_B_X9_read_93.tr jv_rf
  · skip
    refine KV_if ?_ ?_
    · skip
      exact kv_B_X9_read_93.tr jv_rf
    · skip
      refine KV_bc (kv_F_X9_readToken.tr jv_rf) (fun _ _ => ?_)
      refine KV_if ?_ ?_
      · skip
        refine KV_pc ?_
        refine KV_bc (kv_F_X9_behindGap.tr (fv_xI (by first | decide | (refine ⟨?_, ?_⟩ <;> omega)) jv_rf)) (fun _ _ => ?_)
        exact (h_R_33 _).tr jv_rf
      · skip
        refine KV_bc (kv_F_X9_closeWith.tr jv_rf) (fun _ _ => ?_)
        exact KV_some jv_rf
theorem kv_LP_X9_read_33 {N : Nat}  (n : Nat) : ∀ a : Int32 × Int32 × CSt, KV (LP_X9_read_33 N n a) a.2.2 := by
  induction n with
  | zero => exact fun a r z e => by have e : (none : Option _) = some (r, z) := e; cases e
  | succ n ih =>
    intro a
    show KV (B_X9_read_33 N (LP_X9_read_33 N n) a.1 a.2.1 a.2.2) a.2.2
    exact kv_B_X9_read_33 ih
theorem kv_B_X9_read_0 {N : Nat} {l1 : Int32} {u : CSt}  : KV (B_X9_read_0 N l1 u) u := by
  unfold B_X9_read_0
  refine KV_pc ?_
  refine KV_pc ?_
  refine KV_pc ?_
  refine KV_pc ?_
  refine KV_pc ?_
  refine KV_bc (kv_F_X9_behindGap.tr (fv_xI (by first | decide | (refine ⟨?_, ?_⟩ <;> omega)) (fv_xI (by first | decide | (refine ⟨?_, ?_⟩ <;> omega)) (fv_xI (by first | decide | (refine ⟨?_, ?_⟩ <;> omega)) (fv_xI (by first | decide | (refine ⟨?_, ?_⟩ <;> omega)) (fv_xI (by first | decide | (refine ⟨?_, ?_⟩ <;> omega)) jv_rf)))))) (fun _ _ => ?_)
  exact (kv_LP_X9_read_33  _ _).tr jv_rf
theorem kv_F_X9_read {N : Nat} {l1 : Int32} {u : CSt}  : KV (F_X9_read N l1 u) u := by
  unfold F_X9_read
  exact kv_B_X9_read_0.tr jv_rf
theorem kv_B_X7_isDue_0 {N : Nat} {l0 : Nat} {l1 : Int32} {u : CSt}  : KV (B_X7_isDue_0 N l0 l1 u) u := by
  unfold B_X7_isDue_0
  refine KV_if ?_ ?_
  · skip
    exact KV_some jv_rf
  · skip
    refine KV_pb (fun _ => ?_)
    refine KV_if ?_ ?_
    · skip
      exact KV_some jv_rf
    · skip
      exact KV_some jv_rf
theorem kv_F_X7_isDue {N : Nat} {l0 : Nat} {l1 : Int32} {u : CSt}  : KV (F_X7_isDue N l0 l1 u) u := by
  unfold F_X7_isDue
  exact kv_B_X7_isDue_0.tr jv_rf
theorem kv_B_X10_latest_0 {N : Nat} {l1 : Int32} {u : CSt}  : KV (B_X10_latest_0 N l1 u) u := by
  unfold B_X10_latest_0
  refine KV_pb (fun _ => ?_)
  exact KV_some jv_rf
theorem kv_F_X10_latest {N : Nat} {l1 : Int32} {u : CSt}  : KV (F_X10_latest N l1 u) u := by
  unfold F_X10_latest
  exact kv_B_X10_latest_0.tr jv_rf
theorem kv_B_X6_hasRoomFor_58 {N : Nat} {u : CSt}  : KV (B_X6_hasRoomFor_58 N u) u := by
  unfold B_X6_hasRoomFor_58
  exact KV_some jv_rf
theorem kv_B_X6_hasRoomFor_0 {N : Nat} {l0 : Nat} {l1 : Int32} {u : CSt}  : KV (B_X6_hasRoomFor_0 N l0 l1 u) u := by
  unfold B_X6_hasRoomFor_0
  refine KV_if ?_ ?_
  · skip
    refine KV_if ?_ ?_
    · skip
      refine KV_bc (kv_F_X6_name.tr jv_rf) (fun _ _ => ?_)
      refine KV_ok ?_
      refine KV_if ?_ ?_
      · skip
        exact KV_some jv_rf
      · skip
        exact KV_some jv_rf
    · skip
      refine KV_if ?_ ?_
      · skip
        exact kv_B_X6_hasRoomFor_58.tr jv_rf
      · skip
        refine KV_rd (fun _ => ?_)
        refine KV_rd (fun _ => ?_)
        refine KV_if ?_ ?_
        · skip
          exact KV_some jv_rf
        · skip
          exact kv_B_X6_hasRoomFor_58.tr jv_rf
  · skip
    exact KV_some jv_rf
theorem kv_F_X6_hasRoomFor {N : Nat} {l0 : Nat} {l1 : Int32} {u : CSt}  : KV (F_X6_hasRoomFor N l0 l1 u) u := by
  unfold F_X6_hasRoomFor
  exact kv_B_X6_hasRoomFor_0.tr jv_rf
theorem kv_B_X6_empty_0 {N : Nat} {l0 : Nat} {u : CSt}  : KV (B_X6_empty_0 N l0 u) u := by
  unfold B_X6_empty_0
  refine KV_pc ?_
  refine KV_pc ?_
  refine KV_pc ?_
  refine KV_pc ?_
  refine KV_pc ?_
  exact KV_some (fv_xpF (fv_xpI (fv_xpI (fv_xpI (fv_xpI jv_rf)))))
theorem kv_F_X6_empty {N : Nat} {l0 : Nat} {u : CSt}  : KV (F_X6_empty N l0 u) u := by
  unfold F_X6_empty
  exact kv_B_X6_empty_0.tr jv_rf
theorem kv_B_X1_takeInputs_2 {N : Nat} {R_2 : Int32 × CSt → Option (Int32 × CSt)} {l1 : Int32} {u : CSt} (h_R_2 : ∀ a, KV (R_2 a) a.2) : KV (B_X1_takeInputs_2 N R_2 l1 u) u := by
  unfold B_X1_takeInputs_2
  refine KV_if ?_ ?_
  · skip
    exact KV_some jv_rf
  · skip
    refine KV_ix (fun _ => ?_)
    refine KV_rd (fun _ => ?_)
    refine KV_ix (fun _ => ?_)
    refine KV_rd (fun _ => ?_)
    refine KV_ix (fun _ => ?_)
    refine KV_ix (fun _ => ?_)
    refine KV_rd (fun _ => ?_)
    refine KV_wc ?_
    exact (h_R_2 _).tr (fv_xA (by first | decide | (refine ⟨?_, ?_⟩ <;> omega)) jv_rf)
theorem kv_LP_X1_takeInputs_2 {N : Nat}  (n : Nat) : ∀ a : Int32 × CSt, KV (LP_X1_takeInputs_2 N n a) a.2 := by
  induction n with
  | zero => exact fun a r z e => by have e : (none : Option _) = some (r, z) := e; cases e
  | succ n ih =>
    intro a
    show KV (B_X1_takeInputs_2 N (LP_X1_takeInputs_2 N n) a.1 a.2) a.2
    exact kv_B_X1_takeInputs_2 ih
theorem kv_B_X1_takeInputs_0 {N : Nat} {u : CSt}  : KV (B_X1_takeInputs_0 N u) u := by
  unfold B_X1_takeInputs_0
  exact (kv_LP_X1_takeInputs_2  _ _).tr jv_rf
theorem kv_F_X1_takeInputs {N : Nat} {u : CSt}  : KV (F_X1_takeInputs N u) u := by
  unfold F_X1_takeInputs
  exact kv_B_X1_takeInputs_0.tr jv_rf
theorem kv_B_X1_giveOutputs_2 {N : Nat} {R_2 : Int32 × CSt → Option (Int32 × CSt)} {l1 : Int32} {u : CSt} (h_R_2 : ∀ a, KV (R_2 a) a.2) : KV (B_X1_giveOutputs_2 N R_2 l1 u) u := by
  unfold B_X1_giveOutputs_2
  refine KV_if ?_ ?_
  · skip
    exact KV_some jv_rf
  · skip
    refine KV_ix (fun _ => ?_)
    refine KV_rd (fun _ => ?_)
    refine KV_ix (fun _ => ?_)
    refine KV_rd (fun _ => ?_)
    refine KV_ix (fun _ => ?_)
    refine KV_ix (fun _ => ?_)
    refine KV_rd (fun _ => ?_)
    refine KV_wc ?_
    refine KV_ix (fun _ => ?_)
    refine KV_ix (fun _ => ?_)
    refine KV_rd (fun _ => ?_)
    refine KV_wc ?_
    exact (h_R_2 _).tr (fv_xA (by first | decide | (refine ⟨?_, ?_⟩ <;> omega)) (fv_xA (by first | decide | (refine ⟨?_, ?_⟩ <;> omega)) jv_rf))
theorem kv_LP_X1_giveOutputs_2 {N : Nat}  (n : Nat) : ∀ a : Int32 × CSt, KV (LP_X1_giveOutputs_2 N n a) a.2 := by
  induction n with
  | zero => exact fun a r z e => by have e : (none : Option _) = some (r, z) := e; cases e
  | succ n ih =>
    intro a
    show KV (B_X1_giveOutputs_2 N (LP_X1_giveOutputs_2 N n) a.1 a.2) a.2
    exact kv_B_X1_giveOutputs_2 ih
theorem kv_B_X1_giveOutputs_0 {N : Nat} {u : CSt}  : KV (B_X1_giveOutputs_0 N u) u := by
  unfold B_X1_giveOutputs_0
  exact (kv_LP_X1_giveOutputs_2  _ _).tr jv_rf
theorem kv_F_X1_giveOutputs {N : Nat} {u : CSt}  : KV (F_X1_giveOutputs N u) u := by
  unfold F_X1_giveOutputs
  exact kv_B_X1_giveOutputs_0.tr jv_rf
theorem kv_B_X1_wipe_0 {N : Nat} {u : CSt}  : KV (B_X1_wipe_0 N u) u := by
  unfold B_X1_wipe_0
  refine KV_ix (fun _ => ?_)
  refine KV_pc ?_
  refine KV_ix (fun _ => ?_)
  refine KV_pc ?_
  exact KV_some (fv_xF (by first | decide | (refine ⟨?_, ?_⟩ <;> omega)) (fv_xF (by first | decide | (refine ⟨?_, ?_⟩ <;> omega)) jv_rf))
theorem kv_F_X1_wipe {N : Nat} {u : CSt}  : KV (F_X1_wipe N u) u := by
  unfold F_X1_wipe
  exact kv_B_X1_wipe_0.tr jv_rf
theorem kv_B_X1_get_57 {N : Nat} {l3 : Int32} {l4 : Int64} {u : CSt}  : KV (B_X1_get_57 N l3 l4 u) u := by
  unfold B_X1_get_57
  exact KV_some jv_rf
theorem kv_B_X1_get_6 {N : Nat} {R_6 : Int32 × Int32 × Int32 × Int64 × Int32 × CSt → Option (Int64 × CSt)} {l1 : Int32} {l2 : Int32} {l3 : Int32} {l4 : Int64} {l6 : Int32} {u : CSt} (h_R_6 : ∀ a, KV (R_6 a) a.2.2.2.2.2) : KV (B_X1_get_6 N R_6 l1 l2 l3 l4 l6 u) u := by
  unfold B_X1_get_6
  refine KV_rd (fun _ => ?_)
  refine KV_if ?_ ?_
  · skip
    exact kv_B_X1_get_57.tr jv_rf
  · skip
    refine KV_if ?_ ?_
    · skip
      exact kv_B_X1_get_57.tr jv_rf
    · skip
      refine KV_if ?_ ?_
      · skip
        exact kv_B_X1_get_57.tr jv_rf
      · skip
        refine KV_ix (fun _ => ?_)
        refine KV_rd (fun _ => ?_)
        exact (h_R_6 _).tr jv_rf
theorem kv_LP_X1_get_6 {N : Nat}  (n : Nat) : ∀ a : Int32 × Int32 × Int32 × Int64 × Int32 × CSt, KV (LP_X1_get_6 N n a) a.2.2.2.2.2 := by
  induction n with
  | zero => exact fun a r z e => by have e : (none : Option _) = some (r, z) := e; cases e
  | succ n ih =>
    intro a
    show KV (B_X1_get_6 N (LP_X1_get_6 N n) a.1 a.2.1 a.2.2.1 a.2.2.2.1 a.2.2.2.2.1 a.2.2.2.2.2) a.2.2.2.2.2
    exact kv_B_X1_get_6 ih
theorem kv_B_X1_get_0 {N : Nat} {l1 : Int32} {l2 : Int32} {l3 : Int32} {u : CSt}  : KV (B_X1_get_0 N l1 l2 l3 u) u := by
  unfold B_X1_get_0
  exact (kv_LP_X1_get_6  _ _).tr jv_rf
theorem kv_F_X1_get {N : Nat} {l1 : Int32} {l2 : Int32} {l3 : Int32} {u : CSt}  : KV (F_X1_get N l1 l2 l3 u) u := by
  unfold F_X1_get
  exact kv_B_X1_get_0.tr jv_rf
theorem kv_B_X1_set_13 {N : Nat} {R_13 : Int64 × Int32 × Int32 × CSt → Option (Int32 × CSt)} {l3 : Int64} {l5 : Int32} {l6 : Int32} {u : CSt} (h_R_13 : ∀ a, KV (R_13 a) a.2.2.2) : KV (B_X1_set_13 N R_13 l3 l5 l6 u) u := by
  unfold B_X1_set_13
  refine KV_if ?_ ?_
  · skip
    exact KV_some jv_rf
  · skip
    refine KV_if ?_ ?_
    · skip
      exact KV_some jv_rf
    · skip
      refine KV_if ?_ ?_
      · skip
        exact KV_some jv_rf
      · skip
        refine KV_ix (fun _ => ?_)
        refine KV_wc ?_
        exact (h_R_13 _).tr (fv_xA (by first | decide | (refine ⟨?_, ?_⟩ <;> omega)) jv_rf)
theorem kv_LP_X1_set_13 {N : Nat}  (n : Nat) : ∀ a : Int64 × Int32 × Int32 × CSt, KV (LP_X1_set_13 N n a) a.2.2.2 := by
  induction n with
  | zero => exact fun a r z e => by have e : (none : Option _) = some (r, z) := e; cases e
  | succ n ih =>
    intro a
    show KV (B_X1_set_13 N (LP_X1_set_13 N n) a.1 a.2.1 a.2.2.1 a.2.2.2) a.2.2.2
    exact kv_B_X1_set_13 ih
theorem kv_B_X1_set_0 {N : Nat} {l1 : Int32} {l2 : Int32} {l3 : Int64} {u : CSt}  : KV (B_X1_set_0 N l1 l2 l3 u) u := by
  unfold B_X1_set_0
  refine KV_rd (fun _ => ?_)
  exact (kv_LP_X1_set_13  _ _).tr jv_rf
theorem kv_F_X1_set {N : Nat} {l1 : Int32} {l2 : Int32} {l3 : Int64} {u : CSt}  : KV (F_X1_set N l1 l2 l3 u) u := by
  unfold F_X1_set
  exact kv_B_X1_set_0.tr jv_rf
theorem kv_B_X2_numberAt_0 {N : Nat} {l1 : Int32} {u : CSt}  : KV (B_X2_numberAt_0 N l1 u) u := by
  unfold B_X2_numberAt_0
  refine KV_if ?_ ?_
  · skip
    exact KV_some jv_rf
  · skip
    refine KV_if ?_ ?_
    · skip
      exact KV_some jv_rf
    · skip
      refine KV_rd (fun _ => ?_)
      exact KV_some jv_rf
theorem kv_F_X2_numberAt {N : Nat} {l1 : Int32} {u : CSt}  : KV (F_X2_numberAt N l1 u) u := by
  unfold F_X2_numberAt
  exact kv_B_X2_numberAt_0.tr jv_rf
theorem kv_B_X2_put_0 {N : Nat} {l1 : Int32} {l2 : Int64} {u : CSt}  : KV (B_X2_put_0 N l1 l2 u) u := by
  unfold B_X2_put_0
  refine KV_if ?_ ?_
  · skip
    exact KV_some jv_rf
  · skip
    refine KV_if ?_ ?_
    · skip
      exact KV_some jv_rf
    · skip
      refine KV_wc ?_
      exact KV_some (fv_xB jv_rf)
theorem kv_F_X2_put {N : Nat} {l1 : Int32} {l2 : Int64} {u : CSt}  : KV (F_X2_put N l1 l2 u) u := by
  unfold F_X2_put
  exact kv_B_X2_put_0.tr jv_rf
theorem kv_B_X2_fill_3 {N : Nat} {R_3 : Int32 × Int32 × Int64 × Int32 × CSt → Option (Int32 × CSt)} {l1 : Int32} {l2 : Int32} {l3 : Int64} {l5 : Int32} {u : CSt} (h_R_3 : ∀ a, KV (R_3 a) a.2.2.2.2) : KV (B_X2_fill_3 N R_3 l1 l2 l3 l5 u) u := by
  unfold B_X2_fill_3
  refine KV_if ?_ ?_
  · skip
    exact KV_some jv_rf
  · skip
    refine KV_bc (kv_F_X2_put.tr jv_rf) (fun _ _ => ?_)
    exact (h_R_3 _).tr jv_rf
theorem kv_LP_X2_fill_3 {N : Nat}  (n : Nat) : ∀ a : Int32 × Int32 × Int64 × Int32 × CSt, KV (LP_X2_fill_3 N n a) a.2.2.2.2 := by
  induction n with
  | zero => exact fun a r z e => by have e : (none : Option _) = some (r, z) := e; cases e
  | succ n ih =>
    intro a
    show KV (B_X2_fill_3 N (LP_X2_fill_3 N n) a.1 a.2.1 a.2.2.1 a.2.2.2.1 a.2.2.2.2) a.2.2.2.2
    exact kv_B_X2_fill_3 ih
theorem kv_B_X2_fill_0 {N : Nat} {l1 : Int32} {l2 : Int32} {l3 : Int64} {u : CSt}  : KV (B_X2_fill_0 N l1 l2 l3 u) u := by
  unfold B_X2_fill_0
  exact (kv_LP_X2_fill_3  _ _).tr jv_rf
theorem kv_F_X2_fill {N : Nat} {l1 : Int32} {l2 : Int32} {l3 : Int64} {u : CSt}  : KV (F_X2_fill N l1 l2 l3 u) u := by
  unfold F_X2_fill
  exact kv_B_X2_fill_0.tr jv_rf
theorem kv_B_X2_numberOf_23 {N : Nat} {l1 : Nat} {s1 : Int32} {u : CSt}  : KV (B_X2_numberOf_23 N l1 s1 u) u := by
  unfold B_X2_numberOf_23
  refine KV_bc (kv_F_X1_get.tr jv_rf) (fun _ _ => ?_)
  exact KV_some jv_rf
theorem kv_B_X2_numberOf_0 {N : Nat} {l1 : Nat} {l2 : Int32} {u : CSt}  : KV (B_X2_numberOf_0 N l1 l2 u) u := by
  unfold B_X2_numberOf_0
  refine KV_bc (kv_F_X4_isPlaced.tr jv_rf) (fun _ _ => ?_)
  refine KV_if ?_ ?_
  · skip
    refine KV_bc (kv_F_X2_numberAt.tr jv_rf) (fun _ _ => ?_)
    exact KV_some jv_rf
  · skip
    refine KV_bc (kv_F_X4_isInput.tr jv_rf) (fun _ _ => ?_)
    refine KV_if ?_ ?_
    · skip
      exact kv_B_X2_numberOf_23.tr jv_rf
    · skip
      exact kv_B_X2_numberOf_23.tr jv_rf
theorem kv_F_X2_numberOf {N : Nat} {l1 : Nat} {l2 : Int32} {u : CSt}  : KV (F_X2_numberOf N l1 l2 u) u := by
  unfold F_X2_numberOf
  exact kv_B_X2_numberOf_0.tr jv_rf
theorem kv_B_X2_change_0 {N : Nat} {l1 : Nat} {l2 : Int32} {l3 : Int64} {u : CSt}  : KV (B_X2_change_0 N l1 l2 l3 u) u := by
  unfold B_X2_change_0
  refine KV_bc (kv_F_X4_isPlaced.tr jv_rf) (fun _ _ => ?_)
  refine KV_if ?_ ?_
  · skip
    refine KV_bc (kv_F_X2_put.tr jv_rf) (fun _ _ => ?_)
    exact KV_some jv_rf
  · skip
    refine KV_bc (kv_F_X1_set.tr jv_rf) (fun _ _ => ?_)
    exact KV_some jv_rf
theorem kv_F_X2_change {N : Nat} {l1 : Nat} {l2 : Int32} {l3 : Int64} {u : CSt}  : KV (F_X2_change N l1 l2 l3 u) u := by
  unfold F_X2_change
  exact kv_B_X2_change_0.tr jv_rf
theorem kv_B_X2_keep_17 {N : Nat} {R_17 : Nat × Nat × Int32 × CSt → Option (Int32 × CSt)} {l1 : Nat} {l2 : Nat} {l3 : Int32} {u : CSt} (h_R_17 : ∀ a, KV (R_17 a) a.2.2.2) : KV (B_X2_keep_17 N R_17 l1 l2 l3 u) u := by
  unfold B_X2_keep_17
  refine KV_if ?_ ?_
  · skip
    exact KV_some jv_rf
  · skip
    refine KV_if ?_ ?_
    · skip
      exact KV_some jv_rf
    · skip
      refine KV_if ?_ ?_
      · skip
        exact KV_some jv_rf
      · skip
        refine KV_rd (fun _ => ?_)
        refine KV_bc (kv_F_X2_put.tr jv_rf) (fun _ _ => ?_)
        exact (h_R_17 _).tr jv_rf
theorem kv_LP_X2_keep_17 {N : Nat}  (n : Nat) : ∀ a : Nat × Nat × Int32 × CSt, KV (LP_X2_keep_17 N n a) a.2.2.2 := by
  induction n with
  | zero => exact fun a r z e => by have e : (none : Option _) = some (r, z) := e; cases e
  | succ n ih =>
    intro a
    show KV (B_X2_keep_17 N (LP_X2_keep_17 N n) a.1 a.2.1 a.2.2.1 a.2.2.2) a.2.2.2
    exact kv_B_X2_keep_17 ih
theorem kv_B_X2_keep_0 {N : Nat} {l1 : Nat} {l2 : Nat} {u : CSt}  : KV (B_X2_keep_0 N l1 l2 u) u := by
  unfold B_X2_keep_0
  refine KV_if ?_ ?_
  · skip
    refine KV_bc (kv_F_X4_isPlaced.tr jv_rf) (fun _ _ => ?_)
    refine KV_if ?_ ?_
    · skip
      exact (kv_LP_X2_keep_17  _ _).tr jv_rf
    · skip
      exact KV_some jv_rf
  · skip
    exact KV_some jv_rf
theorem kv_F_X2_keep {N : Nat} {l1 : Nat} {l2 : Nat} {u : CSt}  : KV (F_X2_keep N l1 l2 u) u := by
  unfold F_X2_keep
  exact kv_B_X2_keep_0.tr jv_rf
theorem kv_B_X2_resetInstances_31 {N : Nat} {R_2 : Nat × Int32 × CSt → Option (Int32 × CSt)} {R_31 : Nat × Int32 × Nat × Nat × Int32 × CSt → Option (Int32 × CSt)} {l1 : Nat} {l2 : Int32} {l3 : Nat} {l4 : Nat} {l5 : Int32} {u : CSt} (h_R_2 : ∀ a, KV (R_2 a) a.2.2) (h_R_31 : ∀ a, KV (R_31 a) a.2.2.2.2.2) : KV (B_X2_resetInstances_31 N R_2 R_31 l1 l2 l3 l4 l5 u) u := by
  unfold B_X2_resetInstances_31
  refine KV_if ?_ ?_
  · skip
    exact (h_R_2 _).tr jv_rf
  · skip
    refine KV_bc (kv_F_X6_local.tr jv_rf) (fun _ _ => ?_)
    refine KV_ok ?_
    refine KV_bc (kv_F_X2_fill.tr jv_rf) (fun _ _ => ?_)
    exact (h_R_31 _).tr jv_rf
theorem kv_LP_X2_resetInstances_31 {N : Nat} {R_2 : Nat × Int32 × CSt → Option (Int32 × CSt)} (h_R_2 : ∀ a, KV (R_2 a) a.2.2) (n : Nat) : ∀ a : Nat × Int32 × Nat × Nat × Int32 × CSt, KV (LP_X2_resetInstances_31 N R_2 n a) a.2.2.2.2.2 := by
  induction n with
  | zero => exact fun a r z e => by have e : (none : Option _) = some (r, z) := e; cases e
  | succ n ih =>
    intro a
    show KV (B_X2_resetInstances_31 N R_2 (LP_X2_resetInstances_31 N R_2 n) a.1 a.2.1 a.2.2.1 a.2.2.2.1 a.2.2.2.2.1 a.2.2.2.2.2) a.2.2.2.2.2
    exact kv_B_X2_resetInstances_31 h_R_2 ih
theorem kv_B_X2_resetInstances_2 {N : Nat} {R_2 : Nat × Int32 × CSt → Option (Int32 × CSt)} {l1 : Nat} {l2 : Int32} {u : CSt} (h_R_2 : ∀ a, KV (R_2 a) a.2.2) : KV (B_X2_resetInstances_2 N R_2 l1 l2 u) u := by
  unfold B_X2_resetInstances_2
  refine KV_bc (kv_F_X6_ofSort.tr jv_rf) (fun _ _ => ?_)
  refine KV_if ?_ ?_
  · skip
    exact KV_some jv_rf
  · skip
    refine KV_bc (kv_F_X6_nth.tr jv_rf) (fun _ _ => ?_)
    refine KV_ok ?_
    refine KV_bc (kv_F_X6_name.tr jv_rf) (fun _ _ => ?_)
    refine KV_ok ?_
    exact (kv_LP_X2_resetInstances_31 h_R_2 _ _).tr jv_rf
theorem kv_LP_X2_resetInstances_2 {N : Nat}  (n : Nat) : ∀ a : Nat × Int32 × CSt, KV (LP_X2_resetInstances_2 N n a) a.2.2 := by
  induction n with
  | zero => exact fun a r z e => by have e : (none : Option _) = some (r, z) := e; cases e
  | succ n ih =>
    intro a
    show KV (B_X2_resetInstances_2 N (LP_X2_resetInstances_2 N n) a.1 a.2.1 a.2.2) a.2.2
    exact kv_B_X2_resetInstances_2 ih
theorem kv_B_X2_resetInstances_0 {N : Nat} {l1 : Nat} {u : CSt}  : KV (B_X2_resetInstances_0 N l1 u) u := by
  unfold B_X2_resetInstances_0
  exact (kv_LP_X2_resetInstances_2  _ _).tr jv_rf
theorem kv_F_X2_resetInstances {N : Nat} {l1 : Nat} {u : CSt}  : KV (F_X2_resetInstances N l1 u) u := by
  unfold F_X2_resetInstances
  exact kv_B_X2_resetInstances_0.tr jv_rf
theorem kv_B_X2_install_89 {N : Nat} {R_19 : Nat × Nat × Int32 × Int32 × CSt → Option (Int32 × CSt)} {l1 : Nat} {l2 : Nat} {l3 : Int32} {l4 : Int32} {u : CSt} (h_R_19 : ∀ a, KV (R_19 a) a.2.2.2.2) : KV (B_X2_install_89 N R_19 l1 l2 l3 l4 u) u := by
  unfold B_X2_install_89
  exact (h_R_19 _).tr jv_rf
theorem kv_B_X2_install_19 {N : Nat} {R_19 : Nat × Nat × Int32 × Int32 × CSt → Option (Int32 × CSt)} {l1 : Nat} {l2 : Nat} {l3 : Int32} {l4 : Int32} {u : CSt} (h_R_19 : ∀ a, KV (R_19 a) a.2.2.2.2) : KV (B_X2_install_19 N R_19 l1 l2 l3 l4 u) u := by
  unfold B_X2_install_19
  refine KV_bc (kv_F_X6_ofSort.tr jv_rf) (fun _ _ => ?_)
  refine KV_if ?_ ?_
  · skip
    refine KV_bc (kv_F_X2_resetInstances.tr jv_rf) (fun _ _ => ?_)
    exact KV_some jv_rf
  · skip
    refine KV_bc (kv_F_X6_nth.tr jv_rf) (fun _ _ => ?_)
    refine KV_ok ?_
    refine KV_bc (kv_F_X4_isPlaced.tr jv_rf) (fun _ _ => ?_)
    refine KV_if ?_ ?_
    · skip
      refine KV_bc (kv_F_X2_fill.tr jv_rf) (fun _ _ => ?_)
      refine KV_if ?_ ?_
      · skip
        exact (kv_B_X2_install_89 h_R_19).tr jv_rf
      · skip
        refine KV_bc (kv_F_X6_ofText.tr jv_rf) (fun _ _ => ?_)
        refine KV_ok ?_
        refine KV_bc (kv_F_X2_keep.tr jv_rf) (fun _ _ => ?_)
        exact (kv_B_X2_install_89 h_R_19).tr jv_rf
    · skip
      exact (kv_B_X2_install_89 h_R_19).tr jv_rf
theorem kv_LP_X2_install_19 {N : Nat}  (n : Nat) : ∀ a : Nat × Nat × Int32 × Int32 × CSt, KV (LP_X2_install_19 N n a) a.2.2.2.2 := by
  induction n with
  | zero => exact fun a r z e => by have e : (none : Option _) = some (r, z) := e; cases e
  | succ n ih =>
    intro a
    show KV (B_X2_install_19 N (LP_X2_install_19 N n) a.1 a.2.1 a.2.2.1 a.2.2.2.1 a.2.2.2.2) a.2.2.2.2
    exact kv_B_X2_install_19 ih
theorem kv_B_X2_install_0 {N : Nat} {l1 : Nat} {l2 : Nat} {l3 : Int32} {u : CSt}  : KV (B_X2_install_0 N l1 l2 l3 u) u := by
  unfold B_X2_install_0
  refine KV_pc ?_
  exact (kv_LP_X2_install_19  _ _).tr (fv_xG jv_rf)
theorem kv_F_X2_install {N : Nat} {l1 : Nat} {l2 : Nat} {l3 : Int32} {u : CSt}  : KV (F_X2_install N l1 l2 l3 u) u := by
  unfold F_X2_install
  exact kv_B_X2_install_0.tr jv_rf
theorem kv_B_X2_stop_0 {N : Nat} {l1 : Int32} {l2 : Int32} {u : CSt}  : KV (B_X2_stop_0 N l1 l2 u) u := by
  unfold B_X2_stop_0
  refine KV_pc ?_
  refine KV_pc ?_
  refine KV_pc ?_
  exact KV_some (fv_xI (by first | decide | (refine ⟨?_, ?_⟩ <;> omega)) (fv_xI (by first | decide | (refine ⟨?_, ?_⟩ <;> omega)) (fv_xI (by first | decide | (refine ⟨?_, ?_⟩ <;> omega)) jv_rf)))
theorem kv_F_X2_stop {N : Nat} {l1 : Int32} {l2 : Int32} {u : CSt}  : KV (F_X2_stop N l1 l2 u) u := by
  unfold F_X2_stop
  exact kv_B_X2_stop_0.tr jv_rf
theorem kv_B_X2_push_0 {N : Nat} {l1 : Int64} {u : CSt}  : KV (B_X2_push_0 N l1 u) u := by
  unfold B_X2_push_0
  refine KV_bc (kv_F_X2_put.tr jv_rf) (fun _ _ => ?_)
  refine KV_pc ?_
  exact KV_some (fv_xI (by first | decide | (refine ⟨?_, ?_⟩ <;> omega)) jv_rf)
theorem kv_F_X2_push {N : Nat} {l1 : Int64} {u : CSt}  : KV (F_X2_push N l1 u) u := by
  unfold F_X2_push
  exact kv_B_X2_push_0.tr jv_rf
theorem kv_B_X2_pop_0 {N : Nat} {u : CSt}  : KV (B_X2_pop_0 N u) u := by
  unfold B_X2_pop_0
  refine KV_pc ?_
  refine KV_bc (kv_F_X2_numberAt.tr (fv_xI (by first | decide | (refine ⟨?_, ?_⟩ <;> omega)) jv_rf)) (fun _ _ => ?_)
  exact KV_some jv_rf
theorem kv_F_X2_pop {N : Nat} {u : CSt}  : KV (F_X2_pop N u) u := by
  unfold F_X2_pop
  exact kv_B_X2_pop_0.tr jv_rf
theorem kv_B_X2_address_21 {N : Nat} {l3 : Int32} {u : CSt}  : KV (B_X2_address_21 N l3 u) u := by
  unfold B_X2_address_21
  refine KV_bc (kv_F_X2_stop.tr jv_rf) (fun _ _ => ?_)
  exact KV_some jv_rf
theorem kv_B_X2_address_0 {N : Nat} {l1 : Int32} {l2 : Int32} {l3 : Int32} {u : CSt}  : KV (B_X2_address_0 N l1 l2 l3 u) u := by
  unfold B_X2_address_0
  refine KV_bc (kv_F_X2_pop.tr jv_rf) (fun _ _ => ?_)
  refine KV_if ?_ ?_
  · skip
    exact kv_B_X2_address_21.tr jv_rf
  · skip
    refine KV_if ?_ ?_
    · skip
      refine KV_bc (kv_F_X2_push.tr jv_rf) (fun _ _ => ?_)
      exact KV_some jv_rf
    · skip
      exact kv_B_X2_address_21.tr jv_rf
theorem kv_F_X2_address {N : Nat} {l1 : Int32} {l2 : Int32} {l3 : Int32} {u : CSt}  : KV (F_X2_address N l1 l2 l3 u) u := by
  unfold F_X2_address
  exact kv_B_X2_address_0.tr jv_rf
theorem kv_B_X2_assign_0 {N : Nat} {l1 : Int32} {u : CSt}  : KV (B_X2_assign_0 N l1 u) u := by
  unfold B_X2_assign_0
  refine KV_bc (kv_F_X2_pop.tr jv_rf) (fun _ _ => ?_)
  refine KV_bc (kv_F_X2_pop.tr jv_rf) (fun _ _ => ?_)
  refine KV_bc (kv_F_X2_put.tr jv_rf) (fun _ _ => ?_)
  exact KV_some jv_rf
theorem kv_F_X2_assign {N : Nat} {l1 : Int32} {u : CSt}  : KV (F_X2_assign N l1 u) u := by
  unfold F_X2_assign
  exact kv_B_X2_assign_0.tr jv_rf
theorem kv_B_X2_move_0 {N : Nat} {l1 : Int32} {l2 : Int32} {l3 : Int32} {l4 : Int32} {u : CSt}  : KV (B_X2_move_0 N l1 l2 l3 l4 u) u := by
  unfold B_X2_move_0
  refine KV_if ?_ ?_
  · skip
    refine KV_bc (kv_F_X2_push.tr jv_rf) (fun _ _ => ?_)
    exact KV_some jv_rf
  · skip
    refine KV_if ?_ ?_
    · skip
      refine KV_bc (kv_F_X2_push.tr jv_rf) (fun _ _ => ?_)
      exact KV_some jv_rf
    · skip
      refine KV_if ?_ ?_
      · skip
        refine KV_bc (kv_F_X2_numberAt.tr jv_rf) (fun _ _ => ?_)
        refine KV_bc (kv_F_X2_push.tr jv_rf) (fun _ _ => ?_)
        exact KV_some jv_rf
      · skip
        refine KV_if ?_ ?_
        · skip
          refine KV_bc (kv_F_X2_numberAt.tr jv_rf) (fun _ _ => ?_)
          refine KV_bc (kv_F_X2_push.tr jv_rf) (fun _ _ => ?_)
          exact KV_some jv_rf
        · skip
          refine KV_if ?_ ?_
          · skip
            refine KV_bc (kv_F_X1_get.tr jv_rf) (fun _ _ => ?_)
            refine KV_bc (kv_F_X2_push.tr jv_rf) (fun _ _ => ?_)
            exact KV_some jv_rf
          · skip
            refine KV_if ?_ ?_
            · skip
              refine KV_bc (kv_F_X1_get.tr jv_rf) (fun _ _ => ?_)
              refine KV_bc (kv_F_X2_push.tr jv_rf) (fun _ _ => ?_)
              exact KV_some jv_rf
            · skip
              refine KV_if ?_ ?_
              · skip
                refine KV_bc (kv_F_X2_pop.tr jv_rf) (fun _ _ => ?_)
                refine KV_bc (kv_F_X2_put.tr jv_rf) (fun _ _ => ?_)
                exact KV_some jv_rf
              · skip
                refine KV_if ?_ ?_
                · skip
                  refine KV_bc (kv_F_X2_pop.tr jv_rf) (fun _ _ => ?_)
                  refine KV_bc (kv_F_X2_put.tr jv_rf) (fun _ _ => ?_)
                  exact KV_some jv_rf
                · skip
                  refine KV_if ?_ ?_
                  · skip
                    refine KV_bc (kv_F_X2_pop.tr jv_rf) (fun _ _ => ?_)
                    refine KV_bc (kv_F_X1_set.tr jv_rf) (fun _ _ => ?_)
                    exact KV_some jv_rf
                  · skip
                    refine KV_if ?_ ?_
                    · skip
                      refine KV_bc (kv_F_X2_address.tr jv_rf) (fun _ _ => ?_)
                      exact KV_some jv_rf
                    · skip
                      refine KV_if ?_ ?_
                      · skip
                        refine KV_bc (kv_F_X2_address.tr jv_rf) (fun _ _ => ?_)
                        exact KV_some jv_rf
                      · skip
                        refine KV_if ?_ ?_
                        · skip
                          refine KV_bc (kv_F_X2_pop.tr jv_rf) (fun _ _ => ?_)
                          refine KV_bc (kv_F_X2_numberAt.tr jv_rf) (fun _ _ => ?_)
                          refine KV_bc (kv_F_X2_push.tr jv_rf) (fun _ _ => ?_)
                          exact KV_some jv_rf
                        · skip
                          refine KV_if ?_ ?_
                          · skip
                            refine KV_bc (kv_F_X2_numberAt.tr jv_rf) (fun _ _ => ?_)
                            refine KV_bc (kv_F_X2_numberAt.tr jv_rf) (fun _ _ => ?_)
                            refine KV_bc (kv_F_X2_push.tr jv_rf) (fun _ _ => ?_)
                            exact KV_some jv_rf
                          · skip
                            refine KV_if ?_ ?_
                            · skip
                              refine KV_bc (kv_F_X2_numberAt.tr jv_rf) (fun _ _ => ?_)
                              refine KV_bc (kv_F_X2_numberAt.tr jv_rf) (fun _ _ => ?_)
                              refine KV_bc (kv_F_X2_push.tr jv_rf) (fun _ _ => ?_)
                              exact KV_some jv_rf
                            · skip
                              refine KV_if ?_ ?_
                              · skip
                                refine KV_bc (kv_F_X2_assign.tr jv_rf) (fun _ _ => ?_)
                                exact KV_some jv_rf
                              · skip
                                refine KV_if ?_ ?_
                                · skip
                                  refine KV_bc (kv_F_X2_pop.tr jv_rf) (fun _ _ => ?_)
                                  exact KV_some jv_rf
                                · skip
                                  exact KV_some jv_rf
theorem kv_F_X2_move {N : Nat} {l1 : Int32} {l2 : Int32} {l3 : Int32} {l4 : Int32} {u : CSt}  : KV (F_X2_move N l1 l2 l3 l4 u) u := by
  unfold F_X2_move
  exact kv_B_X2_move_0.tr jv_rf
theorem kv_B_X2_reckon_98 {N : Nat} {l5 : Int64} {s1 : Int32} {s2 : Int32} {u : CSt}  : KV (B_X2_reckon_98 N l5 s1 s2 u) u := by
  unfold B_X2_reckon_98
  refine KV_bc (kv_F_X2_pop.tr jv_rf) (fun _ _ => ?_)
  refine KV_bc (kv_F_X2_push.tr jv_rf) (fun _ _ => ?_)
  exact KV_some jv_rf
theorem kv_B_X2_reckon_124 {N : Nat} {l5 : Int64} {s1 : Int32} {s2 : Int32} {u : CSt}  : KV (B_X2_reckon_124 N l5 s1 s2 u) u := by
  unfold B_X2_reckon_124
  refine KV_bc (kv_F_X2_push.tr jv_rf) (fun _ _ => ?_)
  exact KV_some jv_rf
theorem kv_B_X2_reckon_162 {N : Nat} {s1 : Int64} {u : CSt}  : KV (B_X2_reckon_162 N s1 u) u := by
  unfold B_X2_reckon_162
  refine KV_bc (kv_F_X2_push.tr jv_rf) (fun _ _ => ?_)
  exact KV_some jv_rf
theorem kv_B_X2_reckon_203 {N : Nat} {l5 : Int64} {s1 : Int32} {s2 : Int32} {u : CSt}  : KV (B_X2_reckon_203 N l5 s1 s2 u) u := by
  unfold B_X2_reckon_203
  refine KV_bc (kv_F_X2_pop.tr jv_rf) (fun _ _ => ?_)
  refine KV_bc (kv_F_X2_push.tr jv_rf) (fun _ _ => ?_)
  exact KV_some jv_rf
theorem kv_B_X2_reckon_192 {N : Nat} {l2 : Int32} {l3 : Int32} {l5 : Int64} {u : CSt}  : KV (B_X2_reckon_192 N l2 l3 l5 u) u := by
  unfold B_X2_reckon_192
  refine KV_if ?_ ?_
  · skip
    exact kv_B_X2_reckon_203.tr jv_rf
  · skip
    exact kv_B_X2_reckon_203.tr jv_rf
theorem kv_B_X2_reckon_0 {N : Nat} {l1 : Int32} {l2 : Int32} {l3 : Int32} {l4 : Int32} {u : CSt}  : KV (B_X2_reckon_0 N l1 l2 l3 l4 u) u := by
  unfold B_X2_reckon_0
  refine KV_bc (kv_F_X2_pop.tr jv_rf) (fun _ _ => ?_)
  refine KV_if ?_ ?_
  · skip
    refine KV_bc (kv_F_X2_push.tr jv_rf) (fun _ _ => ?_)
    exact KV_some jv_rf
  · skip
    refine KV_if ?_ ?_
    · skip
      refine KV_bc (kv_F_X2_pop.tr jv_rf) (fun _ _ => ?_)
      refine KV_bc (kv_F_X2_push.tr jv_rf) (fun _ _ => ?_)
      exact KV_some jv_rf
    · skip
      refine KV_if ?_ ?_
      · skip
        refine KV_if ?_ ?_
        · skip
          exact kv_B_X2_reckon_98.tr jv_rf
        · skip
          exact kv_B_X2_reckon_98.tr jv_rf
      · skip
        refine KV_if ?_ ?_
        · skip
          refine KV_if ?_ ?_
          · skip
            exact kv_B_X2_reckon_124.tr jv_rf
          · skip
            exact kv_B_X2_reckon_124.tr jv_rf
        · skip
          refine KV_if ?_ ?_
          · skip
            refine KV_bc (kv_F_X2_push.tr jv_rf) (fun _ _ => ?_)
            exact KV_some jv_rf
          · skip
            refine KV_if ?_ ?_
            · skip
              refine KV_if ?_ ?_
              · skip
                exact kv_B_X2_reckon_162.tr jv_rf
              · skip
                exact kv_B_X2_reckon_162.tr jv_rf
            · skip
              refine KV_if ?_ ?_
              · skip
                refine KV_if ?_ ?_
                · skip
                  exact kv_B_X2_reckon_192.tr jv_rf
                · skip
                  refine KV_bc (kv_F_X2_stop.tr jv_rf) (fun _ _ => ?_)
                  exact KV_some jv_rf
              · skip
                exact kv_B_X2_reckon_192.tr jv_rf
theorem kv_F_X2_reckon {N : Nat} {l1 : Int32} {l2 : Int32} {l3 : Int32} {l4 : Int32} {u : CSt}  : KV (F_X2_reckon N l1 l2 l3 l4 u) u := by
  unfold F_X2_reckon
  exact kv_B_X2_reckon_0.tr jv_rf
theorem kv_B_X2_decide_28 {N : Nat} {l2 : Int32} {s1 : Int64} {u : CSt}  : KV (B_X2_decide_28 N l2 s1 u) u := by
  unfold B_X2_decide_28
  refine KV_bc (kv_F_X2_push.tr jv_rf) (fun _ _ => ?_)
  refine KV_pc ?_
  exact KV_some (fv_xI (by first | decide | (refine ⟨?_, ?_⟩ <;> omega)) jv_rf)
theorem kv_B_X2_decide_14 {N : Nat} {l1 : Int32} {l2 : Int32} {s0 : Int32} {u : CSt}  : KV (B_X2_decide_14 N l1 l2 s0 u) u := by
  unfold B_X2_decide_14
  refine KV_if ?_ ?_
  · skip
    refine KV_if ?_ ?_
    · skip
      exact kv_B_X2_decide_28.tr jv_rf
    · skip
      exact kv_B_X2_decide_28.tr jv_rf
  · skip
    exact KV_some jv_rf
theorem kv_B_X2_decide_0 {N : Nat} {l1 : Int32} {l2 : Int32} {u : CSt}  : KV (B_X2_decide_0 N l1 l2 u) u := by
  unfold B_X2_decide_0
  refine KV_bc (kv_F_X2_pop.tr jv_rf) (fun _ _ => ?_)
  refine KV_if ?_ ?_
  · skip
    exact kv_B_X2_decide_14.tr jv_rf
  · skip
    exact kv_B_X2_decide_14.tr jv_rf
theorem kv_F_X2_decide {N : Nat} {l1 : Int32} {l2 : Int32} {u : CSt}  : KV (F_X2_decide N l1 l2 u) u := by
  unfold F_X2_decide
  exact kv_B_X2_decide_0.tr jv_rf
theorem kv_B_X2_turn_66 {N : Nat} {s1 : Int32} {u : CSt}  : KV (B_X2_turn_66 N s1 u) u := by
  unfold B_X2_turn_66
  refine KV_pc ?_
  exact KV_some (fv_xI (by first | decide | (refine ⟨?_, ?_⟩ <;> omega)) jv_rf)
theorem kv_B_X2_turn_117 {N : Nat} {s1 : Int32} {u : CSt}  : KV (B_X2_turn_117 N s1 u) u := by
  unfold B_X2_turn_117
  refine KV_pc ?_
  exact KV_some (fv_xI (by first | decide | (refine ⟨?_, ?_⟩ <;> omega)) jv_rf)
theorem kv_B_X2_turn_150 {N : Nat} {s1 : Int32} {u : CSt}  : KV (B_X2_turn_150 N s1 u) u := by
  unfold B_X2_turn_150
  refine KV_pc ?_
  exact KV_some (fv_xI (by first | decide | (refine ⟨?_, ?_⟩ <;> omega)) jv_rf)
theorem kv_B_X2_turn_0 {N : Nat} {l1 : Int32} {l2 : Int32} {l3 : Int32} {u : CSt}  : KV (B_X2_turn_0 N l1 l2 l3 u) u := by
  unfold B_X2_turn_0
  refine KV_if ?_ ?_
  · skip
    refine KV_pc ?_
    exact KV_some (fv_xI (by first | decide | (refine ⟨?_, ?_⟩ <;> omega)) jv_rf)
  · skip
    refine KV_if ?_ ?_
    · skip
      refine KV_bc (kv_F_X2_pop.tr jv_rf) (fun _ _ => ?_)
      refine KV_if ?_ ?_
      · skip
        exact kv_B_X2_turn_66.tr jv_rf
      · skip
        exact kv_B_X2_turn_66.tr jv_rf
    · skip
      refine KV_if ?_ ?_
      · skip
        refine KV_bc (kv_F_X2_decide.tr jv_rf) (fun _ _ => ?_)
        exact KV_some jv_rf
      · skip
        refine KV_if ?_ ?_
        · skip
          refine KV_bc (kv_F_X2_decide.tr jv_rf) (fun _ _ => ?_)
          exact KV_some jv_rf
        · skip
          refine KV_if ?_ ?_
          · skip
            refine KV_bc (kv_F_X2_pop.tr jv_rf) (fun _ _ => ?_)
            refine KV_bc (kv_F_X2_numberAt.tr jv_rf) (fun _ _ => ?_)
            refine KV_if ?_ ?_
            · skip
              exact kv_B_X2_turn_117.tr jv_rf
            · skip
              exact kv_B_X2_turn_117.tr jv_rf
          · skip
            refine KV_if ?_ ?_
            · skip
              refine KV_bc (kv_F_X2_pop.tr jv_rf) (fun _ _ => ?_)
              refine KV_bc (kv_F_X2_numberAt.tr jv_rf) (fun _ _ => ?_)
              refine KV_if ?_ ?_
              · skip
                exact kv_B_X2_turn_150.tr jv_rf
              · skip
                exact kv_B_X2_turn_150.tr jv_rf
            · skip
              refine KV_ok ?_
              refine KV_bc (kv_F_X2_numberAt.tr jv_rf) (fun _ _ => ?_)
              refine KV_bc (kv_F_X6_liesIn.tr jv_rf) (fun _ _ => ?_)
              refine KV_if ?_ ?_
              · skip
                refine KV_pc ?_
                exact KV_some (fv_xI (by first | decide | (refine ⟨?_, ?_⟩ <;> omega)) jv_rf)
              · skip
                refine KV_pc ?_
                exact KV_some (fv_xI (by first | decide | (refine ⟨?_, ?_⟩ <;> omega)) jv_rf)
theorem kv_F_X2_turn {N : Nat} {l1 : Int32} {l2 : Int32} {l3 : Int32} {u : CSt}  : KV (F_X2_turn N l1 l2 l3 u) u := by
  unfold F_X2_turn
  exact kv_B_X2_turn_0.tr jv_rf
theorem kv_B_X2_remember_0 {N : Nat} {l1 : Int32} {u : CSt}  : KV (B_X2_remember_0 N l1 u) u := by
  unfold B_X2_remember_0
  refine KV_wc ?_
  refine KV_wc ?_
  refine KV_wc ?_
  refine KV_pc ?_
  exact KV_some (fv_xI (by first | decide | (refine ⟨?_, ?_⟩ <;> omega)) (fv_xA (by first | decide | (refine ⟨?_, ?_⟩ <;> omega)) (fv_xA (by first | decide | (refine ⟨?_, ?_⟩ <;> omega)) (fv_xA (by first | decide | (refine ⟨?_, ?_⟩ <;> omega)) jv_rf))))
theorem kv_F_X2_remember {N : Nat} {l1 : Int32} {u : CSt}  : KV (F_X2_remember N l1 u) u := by
  unfold F_X2_remember
  exact kv_B_X2_remember_0.tr jv_rf
theorem kv_B_X2_comeBack_0 {N : Nat} {u : CSt}  : KV (B_X2_comeBack_0 N u) u := by
  unfold B_X2_comeBack_0
  refine KV_if ?_ ?_
  · skip
    refine KV_pc ?_
    refine KV_rd (fun _ => ?_)
    refine KV_pc ?_
    refine KV_rd (fun _ => ?_)
    refine KV_pc ?_
    refine KV_rd (fun _ => ?_)
    refine KV_pc ?_
    exact KV_some (fv_xI (by first | decide | (refine ⟨?_, ?_⟩ <;> omega)) (fv_xI (by first | decide | (refine ⟨?_, ?_⟩ <;> omega)) (fv_xI (by first | decide | (refine ⟨?_, ?_⟩ <;> omega)) (fv_xI (by first | decide | (refine ⟨?_, ?_⟩ <;> omega)) jv_rf))))
  · skip
    refine KV_pc ?_
    exact KV_some (fv_xI (by first | decide | (refine ⟨?_, ?_⟩ <;> omega)) jv_rf)
theorem kv_F_X2_comeBack {N : Nat} {u : CSt}  : KV (F_X2_comeBack N u) u := by
  unfold F_X2_comeBack
  exact kv_B_X2_comeBack_0.tr jv_rf
theorem kv_B_X2_enterFunction_52 {N : Nat} {R_52 : Nat × Int32 × Int32 × CSt → Option (Int32 × CSt)} {l1 : Nat} {l3 : Int32} {l4 : Int32} {u : CSt} (h_R_52 : ∀ a, KV (R_52 a) a.2.2.2) : KV (B_X2_enterFunction_52 N R_52 l1 l3 l4 u) u := by
  unfold B_X2_enterFunction_52
  refine KV_if ?_ ?_
  · skip
    refine KV_pc ?_
    exact KV_some (fv_xI (by first | decide | (refine ⟨?_, ?_⟩ <;> omega)) jv_rf)
  · skip
    refine KV_ok ?_
    refine KV_bc (kv_F_X6_local.tr jv_rf) (fun _ _ => ?_)
    refine KV_ok ?_
    refine KV_bc (kv_F_X2_fill.tr jv_rf) (fun _ _ => ?_)
    exact (h_R_52 _).tr jv_rf
theorem kv_LP_X2_enterFunction_52 {N : Nat}  (n : Nat) : ∀ a : Nat × Int32 × Int32 × CSt, KV (LP_X2_enterFunction_52 N n a) a.2.2.2 := by
  induction n with
  | zero => exact fun a r z e => by have e : (none : Option _) = some (r, z) := e; cases e
  | succ n ih =>
    intro a
    show KV (B_X2_enterFunction_52 N (LP_X2_enterFunction_52 N n) a.1 a.2.1 a.2.2.1 a.2.2.2) a.2.2.2
    exact kv_B_X2_enterFunction_52 ih
theorem kv_B_X2_enterFunction_0 {N : Nat} {l1 : Nat} {l2 : Int32} {u : CSt}  : KV (B_X2_enterFunction_0 N l1 l2 u) u := by
  unfold B_X2_enterFunction_0
  refine KV_if ?_ ?_
  · skip
    refine KV_bc (kv_F_X2_remember.tr jv_rf) (fun _ _ => ?_)
    refine KV_pc ?_
    refine KV_pc ?_
    exact (kv_LP_X2_enterFunction_52  _ _).tr (fv_xI (by first | decide | (refine ⟨?_, ?_⟩ <;> omega)) (fv_xI (by first | decide | (refine ⟨?_, ?_⟩ <;> omega)) jv_rf))
  · skip
    refine KV_bc (kv_F_X2_stop.tr jv_rf) (fun _ _ => ?_)
    exact KV_some jv_rf
theorem kv_F_X2_enterFunction {N : Nat} {l1 : Nat} {l2 : Int32} {u : CSt}  : KV (F_X2_enterFunction N l1 l2 u) u := by
  unfold F_X2_enterFunction
  exact kv_B_X2_enterFunction_0.tr jv_rf
theorem kv_B_X2_enterInstance_0 {N : Nat} {l1 : Nat} {l2 : Int32} {u : CSt}  : KV (B_X2_enterInstance_0 N l1 l2 u) u := by
  unfold B_X2_enterInstance_0
  refine KV_if ?_ ?_
  · skip
    refine KV_bc (kv_F_X2_remember.tr jv_rf) (fun _ _ => ?_)
    refine KV_pc ?_
    refine KV_ok ?_
    refine KV_bc (kv_F_X6_name.tr (fv_xI (by first | decide | (refine ⟨?_, ?_⟩ <;> omega)) jv_rf)) (fun _ _ => ?_)
    refine KV_ok ?_
    refine KV_pc ?_
    exact KV_some (fv_xI (by first | decide | (refine ⟨?_, ?_⟩ <;> omega)) jv_rf)
  · skip
    refine KV_bc (kv_F_X2_stop.tr jv_rf) (fun _ _ => ?_)
    exact KV_some jv_rf
theorem kv_F_X2_enterInstance {N : Nat} {l1 : Nat} {l2 : Int32} {u : CSt}  : KV (F_X2_enterInstance N l1 l2 u) u := by
  unfold F_X2_enterInstance
  exact kv_B_X2_enterInstance_0.tr jv_rf
theorem kv_B_X2_call_0 {N : Nat} {l1 : Int32} {l2 : Int32} {l3 : Int32} {u : CSt}  : KV (B_X2_call_0 N l1 l2 l3 u) u := by
  unfold B_X2_call_0
  refine KV_if ?_ ?_
  · skip
    refine KV_ok ?_
    refine KV_bc (kv_F_X6_name.tr jv_rf) (fun _ _ => ?_)
    refine KV_ok ?_
    refine KV_bc (kv_F_X2_enterFunction.tr jv_rf) (fun _ _ => ?_)
    exact KV_some jv_rf
  · skip
    refine KV_if ?_ ?_
    · skip
      refine KV_ok ?_
      refine KV_bc (kv_F_X6_name.tr jv_rf) (fun _ _ => ?_)
      refine KV_ok ?_
      refine KV_bc (kv_F_X2_enterInstance.tr jv_rf) (fun _ _ => ?_)
      exact KV_some jv_rf
    · skip
      refine KV_if ?_ ?_
      · skip
        refine KV_bc (kv_F_X2_pop.tr jv_rf) (fun _ _ => ?_)
        refine KV_bc (kv_F_X2_comeBack.tr jv_rf) (fun _ _ => ?_)
        refine KV_bc (kv_F_X2_push.tr jv_rf) (fun _ _ => ?_)
        exact KV_some jv_rf
      · skip
        refine KV_if ?_ ?_
        · skip
          refine KV_bc (kv_F_X2_comeBack.tr jv_rf) (fun _ _ => ?_)
          exact KV_some jv_rf
        · skip
          refine KV_bc (kv_F_X2_pop.tr jv_rf) (fun _ _ => ?_)
          refine KV_pc ?_
          refine KV_bc (kv_F_X2_stop.tr (fv_xI (by first | decide | (refine ⟨?_, ?_⟩ <;> omega)) jv_rf)) (fun _ _ => ?_)
          exact KV_some jv_rf
theorem kv_F_X2_call {N : Nat} {l1 : Int32} {l2 : Int32} {l3 : Int32} {u : CSt}  : KV (F_X2_call N l1 l2 l3 u) u := by
  unfold F_X2_call
  exact kv_B_X2_call_0.tr jv_rf
theorem kv_B_X2_go_128 {N : Nat} {l1 : Int32} {l2 : Int32} {l3 : Int32} {l4 : Int32} {u : CSt}  : KV (B_X2_go_128 N l1 l2 l3 l4 u) u := by
  unfold B_X2_go_128
  refine KV_if ?_ ?_
  · skip
    refine KV_if ?_ ?_
    · skip
      refine KV_if ?_ ?_
      · skip
        refine KV_bc (kv_F_X2_call.tr jv_rf) (fun _ _ => ?_)
        exact KV_some jv_rf
      · skip
        refine KV_bc (kv_F_X2_turn.tr jv_rf) (fun _ _ => ?_)
        exact KV_some jv_rf
    · skip
      refine KV_bc (kv_F_X2_reckon.tr jv_rf) (fun _ _ => ?_)
      exact KV_some jv_rf
  · skip
    refine KV_bc (kv_F_X2_move.tr jv_rf) (fun _ _ => ?_)
    exact KV_some jv_rf
theorem kv_B_X2_go_0 {N : Nat} {u : CSt}  : KV (B_X2_go_0 N u) u := by
  unfold B_X2_go_0
  refine KV_if ?_ ?_
  · skip
    refine KV_pc ?_
    exact KV_some (fv_xI (by first | decide | (refine ⟨?_, ?_⟩ <;> omega)) jv_rf)
  · skip
    refine KV_ok ?_
    refine KV_if ?_ ?_
    · skip
      refine KV_rd (fun _ => ?_)
      refine KV_rd (fun _ => ?_)
      refine KV_rd (fun _ => ?_)
      refine KV_rd (fun _ => ?_)
      refine KV_pc ?_
      refine KV_if ?_ ?_
      · skip
        exact kv_B_X2_go_128.tr (fv_xI (by first | decide | (refine ⟨?_, ?_⟩ <;> omega)) jv_rf)
      · skip
        refine KV_if ?_ ?_
        · skip
          refine KV_pc ?_
          exact kv_B_X2_go_128.tr (fv_xI (by first | decide | (refine ⟨?_, ?_⟩ <;> omega)) (fv_xI (by first | decide | (refine ⟨?_, ?_⟩ <;> omega)) jv_rf))
        · skip
          refine KV_bc (kv_F_X2_stop.tr (fv_xI (by first | decide | (refine ⟨?_, ?_⟩ <;> omega)) jv_rf)) (fun _ _ => ?_)
          exact KV_some jv_rf
    · skip
      refine KV_pc ?_
      exact KV_some (fv_xI (by first | decide | (refine ⟨?_, ?_⟩ <;> omega)) jv_rf)
theorem kv_F_X2_go {N : Nat} {u : CSt}  : KV (F_X2_go N u) u := by
  unfold F_X2_go
  exact kv_B_X2_go_0.tr jv_rf
theorem kv_B_X2_run_68 {N : Nat} {R_68 : Int32 × CSt → Option (Int32 × CSt)} {l5 : Int32} {u : CSt} (h_R_68 : ∀ a, KV (R_68 a) a.2) : KV (B_X2_run_68 N R_68 l5 u) u := by
  unfold B_X2_run_68
  refine KV_if ?_ ?_
  · skip
    exact KV_some jv_rf
  · skip
    refine KV_if ?_ ?_
    · skip
      exact KV_some jv_rf
    · skip
      refine KV_bc (kv_F_X2_go.tr jv_rf) (fun _ _ => ?_)
      exact (h_R_68 _).tr jv_rf
theorem kv_LP_X2_run_68 {N : Nat}  (n : Nat) : ∀ a : Int32 × CSt, KV (LP_X2_run_68 N n a) a.2 := by
  induction n with
  | zero => exact fun a r z e => by have e : (none : Option _) = some (r, z) := e; cases e
  | succ n ih =>
    intro a
    show KV (B_X2_run_68 N (LP_X2_run_68 N n) a.1 a.2) a.2
    exact kv_B_X2_run_68 ih
theorem kv_B_X2_run_0 {N : Nat} {l1 : Nat} {l2 : Int32} {l3 : Int32} {l4 : Int32} {u : CSt}  : KV (B_X2_run_0 N l1 l2 l3 l4 u) u := by
  unfold B_X2_run_0
  refine KV_pc ?_
  refine KV_pc ?_
  refine KV_pc ?_
  refine KV_pc ?_
  refine KV_pc ?_
  refine KV_pc ?_
  refine KV_pc ?_
  refine KV_pc ?_
  refine KV_pc ?_
  refine KV_pc ?_
  refine KV_pc ?_
  refine KV_pc ?_
  exact (kv_LP_X2_run_68  _ _).tr (fv_xI (by first | decide | (refine ⟨?_, ?_⟩ <;> omega)) (fv_xI (by first | decide | (refine ⟨?_, ?_⟩ <;> omega)) (fv_xI (by first | decide | (refine ⟨?_, ?_⟩ <;> omega)) (fv_xI (by first | decide | (refine ⟨?_, ?_⟩ <;> omega)) (fv_xI (by first | decide | (refine ⟨?_, ?_⟩ <;> omega)) (fv_xI (by first | decide | (refine ⟨?_, ?_⟩ <;> omega)) (fv_xI (by first | decide | (refine ⟨?_, ?_⟩ <;> omega)) (fv_xI (by first | decide | (refine ⟨?_, ?_⟩ <;> omega)) (fv_xI (by first | decide | (refine ⟨?_, ?_⟩ <;> omega)) (fv_xI (by first | decide | (refine ⟨?_, ?_⟩ <;> omega)) (fv_xI (by first | decide | (refine ⟨?_, ?_⟩ <;> omega)) (fv_xR jv_rf))))))))))))
theorem kv_F_X2_run {N : Nat} {l1 : Nat} {l2 : Int32} {l3 : Int32} {l4 : Int32} {u : CSt}  : KV (F_X2_run N l1 l2 l3 l4 u) u := by
  unfold F_X2_run
  exact kv_B_X2_run_0.tr jv_rf
theorem kv_B_X7_note_0 {N : Nat} {l0 : Nat} {l2 : Int32} {u : CSt}  : KV (B_X7_note_0 N l0 l2 u) u := by
  unfold B_X7_note_0
  refine KV_pc ?_
  refine KV_pc ?_
  refine KV_if ?_ ?_
  · skip
    exact KV_some (fv_xtI (fv_xtI jv_rf))
  · skip
    refine KV_pc ?_
    refine KV_pc ?_
    refine KV_pc ?_
    refine KV_pc ?_
    refine KV_pc ?_
    exact KV_some (fv_xtI (fv_xtI (fv_xtI (fv_xtI (fv_xtI (fv_xtI (fv_xtI jv_rf)))))))
theorem kv_F_X7_note {N : Nat} {l0 : Nat} {l2 : Int32} {u : CSt}  : KV (F_X7_note N l0 l2 u) u := by
  unfold F_X7_note
  exact kv_B_X7_note_0.tr jv_rf
theorem kv_B_X0_opens_27 {N : Nat} {u : CSt}  : KV (B_X0_opens_27 N u) u := by
  unfold B_X0_opens_27
  refine KV_pc ?_
  refine KV_bc (kv_F_X9_next.tr (fv_xI (by first | decide | (refine ⟨?_, ?_⟩ <;> omega)) jv_rf)) (fun _ _ => ?_)
  exact KV_some jv_rf
theorem kv_B_X0_opens_20 {N : Nat} {u : CSt}  : KV (B_X0_opens_20 N u) u := by
  unfold B_X0_opens_20
  refine KV_bt (kv_F_X9_refuseToken.tr jv_rf) (fun _ _ => ?_)
  exact kv_B_X0_opens_27.tr jv_rf
theorem kv_B_X0_opens_0 {N : Nat} {l1 : Int32} {u : CSt}  : KV (B_X0_opens_0 N l1 u) u := by
  unfold B_X0_opens_0
  refine KV_bc (kv_F_X9_is.tr jv_rf) (fun _ _ => ?_)
  refine KV_if ?_ ?_
  · skip
    exact kv_B_X0_opens_20.tr jv_rf
  · skip
    refine KV_if ?_ ?_
    · skip
      exact kv_B_X0_opens_27.tr jv_rf
    · skip
      exact kv_B_X0_opens_20.tr jv_rf
theorem kv_F_X0_opens {N : Nat} {l1 : Int32} {u : CSt}  : KV (F_X0_opens N l1 u) u := by
  unfold F_X0_opens
  exact kv_B_X0_opens_0.tr jv_rf
theorem kv_B_X0_closes_0 {N : Nat} {l1 : Int32} {u : CSt}  : KV (B_X0_closes_0 N l1 u) u := by
  unfold B_X0_closes_0
  refine KV_bt (kv_F_X9_take.tr jv_rf) (fun _ _ => ?_)
  refine KV_pc ?_
  exact KV_some (fv_xI (by first | decide | (refine ⟨?_, ?_⟩ <;> omega)) jv_rf)
theorem kv_F_X0_closes {N : Nat} {l1 : Int32} {u : CSt}  : KV (F_X0_closes N l1 u) u := by
  unfold F_X0_closes
  exact kv_B_X0_closes_0.tr jv_rf
theorem kv_B_X0_kind_17 {N : Nat} {u : CSt}  : KV (B_X0_kind_17 N u) u := by
  unfold B_X0_kind_17
  refine KV_bc (kv_F_X9_next.tr jv_rf) (fun _ _ => ?_)
  exact KV_some jv_rf
theorem kv_B_X0_kind_0 {N : Nat} {u : CSt}  : KV (B_X0_kind_0 N u) u := by
  unfold B_X0_kind_0
  refine KV_bc (kv_F_X9_isKindWord.tr jv_rf) (fun _ _ => ?_)
  refine KV_if ?_ ?_
  · skip
    refine KV_bt (kv_F_X9_refuseToken.tr jv_rf) (fun _ _ => ?_)
    exact kv_B_X0_kind_17.tr jv_rf
  · skip
    exact kv_B_X0_kind_17.tr jv_rf
theorem kv_F_X0_kind {N : Nat} {u : CSt}  : KV (F_X0_kind N u) u := by
  unfold F_X0_kind
  exact kv_B_X0_kind_0.tr jv_rf
theorem kv_B_X0_constant_52 {N : Nat} {u : CSt}  : KV (B_X0_constant_52 N u) u := by
  unfold B_X0_constant_52
  refine KV_bc (kv_F_X9_next.tr jv_rf) (fun _ _ => ?_)
  exact KV_some jv_rf
theorem kv_B_X0_constant_19 {N : Nat} {u : CSt}  : KV (B_X0_constant_19 N u) u := by
  unfold B_X0_constant_19
  refine KV_bc (kv_F_X9_is.tr jv_rf) (fun _ _ => ?_)
  refine KV_if ?_ ?_
  · skip
    refine KV_bc (kv_F_X9_is.tr jv_rf) (fun _ _ => ?_)
    refine KV_if ?_ ?_
    · skip
      refine KV_bt (kv_F_X9_refuseToken.tr jv_rf) (fun _ _ => ?_)
      exact kv_B_X0_constant_52.tr jv_rf
    · skip
      exact kv_B_X0_constant_52.tr jv_rf
  · skip
    exact kv_B_X0_constant_52.tr jv_rf
theorem kv_B_X0_constant_0 {N : Nat} {u : CSt}  : KV (B_X0_constant_0 N u) u := by
  unfold B_X0_constant_0
  refine KV_bc (kv_F_X9_is.tr jv_rf) (fun _ _ => ?_)
  refine KV_if ?_ ?_
  · skip
    exact kv_B_X0_constant_19.tr jv_rf
  · skip
    refine KV_bc (kv_F_X9_next.tr jv_rf) (fun _ _ => ?_)
    exact kv_B_X0_constant_19.tr jv_rf
theorem kv_F_X0_constant {N : Nat} {u : CSt}  : KV (F_X0_constant N u) u := by
  unfold F_X0_constant
  exact kv_B_X0_constant_0.tr jv_rf
theorem kv_B_X0_oneVariable_44 {N : Nat} {u : CSt}  : KV (B_X0_oneVariable_44 N u) u := by
  unfold B_X0_oneVariable_44
  refine KV_bc (kv_F_X9_is.tr jv_rf) (fun _ _ => ?_)
  refine KV_if ?_ ?_
  · skip
    exact KV_some jv_rf
  · skip
    refine KV_bc (kv_F_X9_next.tr jv_rf) (fun _ _ => ?_)
    refine KV_bt (kv_F_X0_constant.tr jv_rf) (fun _ _ => ?_)
    exact KV_some jv_rf
theorem kv_B_X0_oneVariable_0 {N : Nat} {u : CSt}  : KV (B_X0_oneVariable_0 N u) u := by
  unfold B_X0_oneVariable_0
  refine KV_bt (kv_F_X9_take.tr jv_rf) (fun _ _ => ?_)
  refine KV_bc (kv_F_X9_is.tr jv_rf) (fun _ _ => ?_)
  refine KV_if ?_ ?_
  · skip
    exact kv_B_X0_oneVariable_44.tr jv_rf
  · skip
    refine KV_bt (kv_F_X0_opens.tr jv_rf) (fun _ _ => ?_)
    refine KV_bt (kv_F_X9_take.tr jv_rf) (fun _ _ => ?_)
    refine KV_bt (kv_F_X0_closes.tr jv_rf) (fun _ _ => ?_)
    exact kv_B_X0_oneVariable_44.tr jv_rf
theorem kv_F_X0_oneVariable {N : Nat} {u : CSt}  : KV (F_X0_oneVariable N u) u := by
  unfold F_X0_oneVariable
  exact kv_B_X0_oneVariable_0.tr jv_rf
theorem kv_B_X0_variables_53 {N : Nat} {u : CSt}  : KV (B_X0_variables_53 N u) u := by
  unfold B_X0_variables_53
  refine KV_bt (kv_F_X9_take.tr jv_rf) (fun _ _ => ?_)
  exact KV_some jv_rf
theorem kv_B_X0_variables_17 {N : Nat} {R_17 : Int32 × CSt → Option ((Sum Nat Int32) × CSt)} {l1 : Int32} {u : CSt} (h_R_17 : ∀ a, KV (R_17 a) a.2) : KV (B_X0_variables_17 N R_17 l1 u) u := by
  unfold B_X0_variables_17
  refine KV_if ?_ ?_
  · skip
    exact kv_B_X0_variables_53.tr jv_rf
  · skip
    refine KV_bc (kv_F_X9_is.tr jv_rf) (fun _ _ => ?_)
    refine KV_if ?_ ?_
    · skip
      exact kv_B_X0_variables_53.tr jv_rf
    · skip
      refine KV_bc (kv_F_X9_next.tr jv_rf) (fun _ _ => ?_)
      refine KV_bt (kv_F_X0_oneVariable.tr jv_rf) (fun _ _ => ?_)
      exact (h_R_17 _).tr jv_rf
theorem kv_LP_X0_variables_17 {N : Nat}  (n : Nat) : ∀ a : Int32 × CSt, KV (LP_X0_variables_17 N n a) a.2 := by
  induction n with
  | zero => exact fun a r z e => by have e : (none : Option _) = some (r, z) := e; cases e
  | succ n ih =>
    intro a
    show KV (B_X0_variables_17 N (LP_X0_variables_17 N n) a.1 a.2) a.2
    exact kv_B_X0_variables_17 ih
theorem kv_B_X0_variables_0 {N : Nat} {u : CSt}  : KV (B_X0_variables_0 N u) u := by
  unfold B_X0_variables_0
  refine KV_bc (kv_F_X9_next.tr jv_rf) (fun _ _ => ?_)
  refine KV_bt (kv_F_X0_kind.tr jv_rf) (fun _ _ => ?_)
  refine KV_bt (kv_F_X0_oneVariable.tr jv_rf) (fun _ _ => ?_)
  exact (kv_LP_X0_variables_17  _ _).tr jv_rf
theorem kv_F_X0_variables {N : Nat} {u : CSt}  : KV (F_X0_variables N u) u := by
  unfold F_X0_variables
  exact kv_B_X0_variables_0.tr jv_rf
theorem kv_B_X0_placed_0 {N : Nat} {u : CSt}  : KV (B_X0_placed_0 N u) u := by
  unfold B_X0_placed_0
  refine KV_bc (kv_F_X9_next.tr jv_rf) (fun _ _ => ?_)
  refine KV_bt (kv_F_X0_kind.tr jv_rf) (fun _ _ => ?_)
  refine KV_bt (kv_F_X9_take.tr jv_rf) (fun _ _ => ?_)
  refine KV_bt (kv_F_X9_take.tr jv_rf) (fun _ _ => ?_)
  refine KV_bt (kv_F_X9_take.tr jv_rf) (fun _ _ => ?_)
  refine KV_bt (kv_F_X9_take.tr jv_rf) (fun _ _ => ?_)
  exact KV_some jv_rf
theorem kv_F_X0_placed {N : Nat} {u : CSt}  : KV (F_X0_placed N u) u := by
  unfold F_X0_placed
  exact kv_B_X0_placed_0.tr jv_rf
theorem kv_B_X0_uses_71 {N : Nat} {u : CSt}  : KV (B_X0_uses_71 N u) u := by
  unfold B_X0_uses_71
  refine KV_bt (kv_F_X9_take.tr jv_rf) (fun _ _ => ?_)
  exact KV_some jv_rf
theorem kv_B_X0_uses_29 {N : Nat} {R_29 : Int32 × CSt → Option ((Sum Nat Int32) × CSt)} {l1 : Int32} {u : CSt} (h_R_29 : ∀ a, KV (R_29 a) a.2) : KV (B_X0_uses_29 N R_29 l1 u) u := by
  unfold B_X0_uses_29
  refine KV_if ?_ ?_
  · skip
    exact kv_B_X0_uses_71.tr jv_rf
  · skip
    refine KV_bc (kv_F_X9_is.tr jv_rf) (fun _ _ => ?_)
    refine KV_if ?_ ?_
    · skip
      exact kv_B_X0_uses_71.tr jv_rf
    · skip
      refine KV_bc (kv_F_X9_next.tr jv_rf) (fun _ _ => ?_)
      refine KV_bt (kv_F_X9_take.tr jv_rf) (fun _ _ => ?_)
      exact (h_R_29 _).tr jv_rf
theorem kv_LP_X0_uses_29 {N : Nat}  (n : Nat) : ∀ a : Int32 × CSt, KV (LP_X0_uses_29 N n a) a.2 := by
  induction n with
  | zero => exact fun a r z e => by have e : (none : Option _) = some (r, z) := e; cases e
  | succ n ih =>
    intro a
    show KV (B_X0_uses_29 N (LP_X0_uses_29 N n) a.1 a.2) a.2
    exact kv_B_X0_uses_29 ih
theorem kv_B_X0_uses_0 {N : Nat} {u : CSt}  : KV (B_X0_uses_0 N u) u := by
  unfold B_X0_uses_0
  refine KV_bc (kv_F_X9_next.tr jv_rf) (fun _ _ => ?_)
  refine KV_bt (kv_F_X9_take.tr jv_rf) (fun _ _ => ?_)
  refine KV_bt (kv_F_X9_take.tr jv_rf) (fun _ _ => ?_)
  exact (kv_LP_X0_uses_29  _ _).tr jv_rf
theorem kv_F_X0_uses {N : Nat} {u : CSt}  : KV (F_X0_uses N u) u := by
  unfold F_X0_uses
  exact kv_B_X0_uses_0.tr jv_rf
theorem kv_B_X0_label_0 {N : Nat} {u : CSt}  : KV (B_X0_label_0 N u) u := by
  unfold B_X0_label_0
  refine KV_bt (kv_F_X0_constant.tr jv_rf) (fun _ _ => ?_)
  refine KV_bc (kv_F_X9_is.tr jv_rf) (fun _ _ => ?_)
  refine KV_if ?_ ?_
  · skip
    exact KV_some jv_rf
  · skip
    refine KV_bc (kv_F_X9_next.tr jv_rf) (fun _ _ => ?_)
    refine KV_bt (kv_F_X0_constant.tr jv_rf) (fun _ _ => ?_)
    exact KV_some jv_rf
theorem kv_F_X0_label {N : Nat} {u : CSt}  : KV (F_X0_label N u) u := by
  unfold F_X0_label
  exact kv_B_X0_label_0.tr jv_rf
theorem kv_B_X0_bit_0 {N : Nat} {u : CSt}  : KV (B_X0_bit_0 N u) u := by
  unfold B_X0_bit_0
  refine KV_bc (kv_F_X9_is.tr jv_rf) (fun _ _ => ?_)
  refine KV_if ?_ ?_
  · skip
    exact KV_some jv_rf
  · skip
    refine KV_bc (kv_F_X9_next.tr jv_rf) (fun _ _ => ?_)
    refine KV_bt (kv_F_X9_take.tr jv_rf) (fun _ _ => ?_)
    exact KV_some jv_rf
theorem kv_F_X0_bit {N : Nat} {u : CSt}  : KV (F_X0_bit N u) u := by
  unfold F_X0_bit
  exact kv_B_X0_bit_0.tr jv_rf
theorem kv_B_X0_expression_43 {N : Nat} {ro : Nat → Nat → Int32 → Int32 → CSt → Option (Sum Nat Int32 × CSt)} {u : CSt} (h_ro : ∀ q z a b u, KV (ro q z a b u) u) : KV (B_X0_expression_43 N ro u) u := by
  unfold B_X0_expression_43
  refine KV_bc (kv_F_X9_is.tr jv_rf) (fun _ _ => ?_)
  refine KV_if ?_ ?_
  · skip
    exact KV_some jv_rf
  · skip
    refine KV_bt (kv_F_X0_opens.tr jv_rf) (fun _ _ => ?_)
    refine KV_bt ((h_ro _ _ _ _ _).tr jv_rf) (fun _ _ => ?_)
    refine KV_bt (kv_F_X9_take.tr jv_rf) (fun _ _ => ?_)
    refine KV_bt ((h_ro _ _ _ _ _).tr jv_rf) (fun _ _ => ?_)
    refine KV_pc ?_
    exact KV_some (fv_xI (by first | decide | (refine ⟨?_, ?_⟩ <;> omega)) jv_rf)
theorem kv_B_X0_expression_6 {N : Nat} {ro : Nat → Nat → Int32 → Int32 → CSt → Option (Sum Nat Int32 × CSt)} {R_6 : Int32 × CSt → Option ((Sum Nat Int32) × CSt)} {l1 : Int32} {u : CSt} (h_ro : ∀ q z a b u, KV (ro q z a b u) u) (h_R_6 : ∀ a, KV (R_6 a) a.2) : KV (B_X0_expression_6 N ro R_6 l1 u) u := by
  unfold B_X0_expression_6
  refine KV_if ?_ ?_
  · skip
    exact (kv_B_X0_expression_43 h_ro).tr jv_rf
  · skip
    refine KV_bc (kv_F_X9_type.tr jv_rf) (fun _ _ => ?_)
    refine KV_pb (fun _ => ?_)
    refine KV_if ?_ ?_
    · skip
      exact (kv_B_X0_expression_43 h_ro).tr jv_rf
    · skip
      refine KV_bc (kv_F_X9_next.tr jv_rf) (fun _ _ => ?_)
      refine KV_bt ((h_ro _ _ _ _ _).tr jv_rf) (fun _ _ => ?_)
      exact (h_R_6 _).tr jv_rf
theorem kv_LP_X0_expression_6 {N : Nat} {ro : Nat → Nat → Int32 → Int32 → CSt → Option (Sum Nat Int32 × CSt)} (h_ro : ∀ q z a b u, KV (ro q z a b u) u) (n : Nat) : ∀ a : Int32 × CSt, KV (LP_X0_expression_6 N ro n a) a.2 := by
  induction n with
  | zero => exact fun a r z e => by have e : (none : Option _) = some (r, z) := e; cases e
  | succ n ih =>
    intro a
    show KV (B_X0_expression_6 N ro (LP_X0_expression_6 N ro n) a.1 a.2) a.2
    exact kv_B_X0_expression_6 h_ro ih
theorem kv_B_X0_expression_0 {N : Nat} {ro : Nat → Nat → Int32 → Int32 → CSt → Option (Sum Nat Int32 × CSt)} {u : CSt} (h_ro : ∀ q z a b u, KV (ro q z a b u) u) : KV (B_X0_expression_0 N ro u) u := by
  unfold B_X0_expression_0
  refine KV_bt ((h_ro _ _ _ _ _).tr jv_rf) (fun _ _ => ?_)
  exact (kv_LP_X0_expression_6 h_ro _ _).tr jv_rf
theorem kv_F_X0_expression {N : Nat} {ro : Nat → Nat → Int32 → Int32 → CSt → Option (Sum Nat Int32 × CSt)} {u : CSt} (h_ro : ∀ q z a b u, KV (ro q z a b u) u) : KV (F_X0_expression N ro u) u := by
  unfold F_X0_expression
  exact (kv_B_X0_expression_0 h_ro).tr jv_rf
theorem kv_B_X0_operand_0 {N : Nat} {ro : Nat → Nat → Int32 → Int32 → CSt → Option (Sum Nat Int32 × CSt)} {u : CSt} (h_ro : ∀ q z a b u, KV (ro q z a b u) u) : KV (B_X0_operand_0 N ro u) u := by
  unfold B_X0_operand_0
  refine KV_bc (kv_F_X9_type.tr jv_rf) (fun _ _ => ?_)
  refine KV_if ?_ ?_
  · skip
    refine KV_bc (kv_F_X9_next.tr jv_rf) (fun _ _ => ?_)
    exact KV_some jv_rf
  · skip
    refine KV_if ?_ ?_
    · skip
      refine KV_bc (kv_F_X9_type.tr jv_rf) (fun _ _ => ?_)
      refine KV_bt (kv_F_X0_opens.tr jv_rf) (fun _ _ => ?_)
      refine KV_bt ((h_ro _ _ _ _ _).tr jv_rf) (fun _ _ => ?_)
      refine KV_pc ?_
      exact KV_some (fv_xI (by first | decide | (refine ⟨?_, ?_⟩ <;> omega)) jv_rf)
    · skip
      refine KV_if ?_ ?_
      · skip
        refine KV_bt ((h_ro _ _ _ _ _).tr jv_rf) (fun _ _ => ?_)
        exact KV_some jv_rf
      · skip
        refine KV_if ?_ ?_
        · skip
          refine KV_bc (kv_F_X9_type.tr jv_rf) (fun _ _ => ?_)
          refine KV_bt (kv_F_X0_opens.tr jv_rf) (fun _ _ => ?_)
          refine KV_bt ((h_ro _ _ _ _ _).tr jv_rf) (fun _ _ => ?_)
          refine KV_pc ?_
          exact KV_some (fv_xI (by first | decide | (refine ⟨?_, ?_⟩ <;> omega)) jv_rf)
        · skip
          refine KV_if ?_ ?_
          · skip
            refine KV_bc (kv_F_X9_type.tr jv_rf) (fun _ _ => ?_)
            refine KV_bt (kv_F_X0_opens.tr jv_rf) (fun _ _ => ?_)
            refine KV_bt ((h_ro _ _ _ _ _).tr jv_rf) (fun _ _ => ?_)
            refine KV_pc ?_
            exact KV_some (fv_xI (by first | decide | (refine ⟨?_, ?_⟩ <;> omega)) jv_rf)
          · skip
            refine KV_if ?_ ?_
            · skip
              refine KV_bt ((h_ro _ _ _ _ _).tr jv_rf) (fun _ _ => ?_)
              exact KV_some jv_rf
            · skip
              refine KV_if ?_ ?_
              · skip
                refine KV_bc (kv_F_X9_next.tr jv_rf) (fun _ _ => ?_)
                exact KV_some jv_rf
              · skip
                refine KV_if ?_ ?_
                · skip
                  refine KV_bc (kv_F_X9_next.tr jv_rf) (fun _ _ => ?_)
                  exact KV_some jv_rf
                · skip
                  refine KV_bt (kv_F_X9_refuseToken.tr jv_rf) (fun _ _ => ?_)
                  exact KV_some jv_rf
theorem kv_F_X0_operand {N : Nat} {ro : Nat → Nat → Int32 → Int32 → CSt → Option (Sum Nat Int32 × CSt)} {u : CSt} (h_ro : ∀ q z a b u, KV (ro q z a b u) u) : KV (F_X0_operand N ro u) u := by
  unfold F_X0_operand
  exact (kv_B_X0_operand_0 h_ro).tr jv_rf
theorem kv_B_X0_bracket_0 {N : Nat} {ro : Nat → Nat → Int32 → Int32 → CSt → Option (Sum Nat Int32 × CSt)} {u : CSt} (h_ro : ∀ q z a b u, KV (ro q z a b u) u) : KV (B_X0_bracket_0 N ro u) u := by
  unfold B_X0_bracket_0
  refine KV_bt (kv_F_X0_opens.tr jv_rf) (fun _ _ => ?_)
  refine KV_bc (kv_F_X9_isKindWord.tr jv_rf) (fun _ _ => ?_)
  refine KV_if ?_ ?_
  · skip
    refine KV_bt ((h_ro _ _ _ _ _).tr jv_rf) (fun _ _ => ?_)
    refine KV_bt (kv_F_X0_closes.tr jv_rf) (fun _ _ => ?_)
    exact KV_some jv_rf
  · skip
    refine KV_bc (kv_F_X9_next.tr jv_rf) (fun _ _ => ?_)
    refine KV_bt (kv_F_X9_take.tr jv_rf) (fun _ _ => ?_)
    refine KV_bt ((h_ro _ _ _ _ _).tr jv_rf) (fun _ _ => ?_)
    refine KV_pc ?_
    exact KV_some (fv_xI (by first | decide | (refine ⟨?_, ?_⟩ <;> omega)) jv_rf)
theorem kv_F_X0_bracket {N : Nat} {ro : Nat → Nat → Int32 → Int32 → CSt → Option (Sum Nat Int32 × CSt)} {u : CSt} (h_ro : ∀ q z a b u, KV (ro q z a b u) u) : KV (F_X0_bracket N ro u) u := by
  unfold F_X0_bracket
  exact (kv_B_X0_bracket_0 h_ro).tr jv_rf
theorem kv_B_X0_namedOperand_73 {N : Nat} {ro : Nat → Nat → Int32 → Int32 → CSt → Option (Sum Nat Int32 × CSt)} {u : CSt} (h_ro : ∀ q z a b u, KV (ro q z a b u) u) : KV (B_X0_namedOperand_73 N ro u) u := by
  unfold B_X0_namedOperand_73
  refine KV_bt ((h_ro _ _ _ _ _).tr jv_rf) (fun _ _ => ?_)
  refine KV_bt (kv_F_X0_bit.tr jv_rf) (fun _ _ => ?_)
  exact KV_some jv_rf
theorem kv_B_X0_namedOperand_0 {N : Nat} {ro : Nat → Nat → Int32 → Int32 → CSt → Option (Sum Nat Int32 × CSt)} {u : CSt} (h_ro : ∀ q z a b u, KV (ro q z a b u) u) : KV (B_X0_namedOperand_0 N ro u) u := by
  unfold B_X0_namedOperand_0
  refine KV_bc (kv_F_X9_next.tr jv_rf) (fun _ _ => ?_)
  refine KV_bc (kv_F_X9_is.tr jv_rf) (fun _ _ => ?_)
  refine KV_if ?_ ?_
  · skip
    refine KV_bc (kv_F_X9_is.tr jv_rf) (fun _ _ => ?_)
    refine KV_if ?_ ?_
    · skip
      exact (kv_B_X0_namedOperand_73 h_ro).tr jv_rf
    · skip
      refine KV_bc (kv_F_X9_typeAhead.tr jv_rf) (fun _ _ => ?_)
      refine KV_if ?_ ?_
      · skip
        refine KV_bc (kv_F_X9_next.tr jv_rf) (fun _ _ => ?_)
        refine KV_bc (kv_F_X9_next.tr jv_rf) (fun _ _ => ?_)
        refine KV_bt ((h_ro _ _ _ _ _).tr jv_rf) (fun _ _ => ?_)
        exact KV_some jv_rf
      · skip
        exact (kv_B_X0_namedOperand_73 h_ro).tr jv_rf
  · skip
    refine KV_bt ((h_ro _ _ _ _ _).tr jv_rf) (fun _ _ => ?_)
    exact KV_some jv_rf
theorem kv_F_X0_namedOperand {N : Nat} {ro : Nat → Nat → Int32 → Int32 → CSt → Option (Sum Nat Int32 × CSt)} {u : CSt} (h_ro : ∀ q z a b u, KV (ro q z a b u) u) : KV (F_X0_namedOperand N ro u) u := by
  unfold F_X0_namedOperand
  exact (kv_B_X0_namedOperand_0 h_ro).tr jv_rf
theorem kv_B_X0_arguments_60 {N : Nat} {ro : Nat → Nat → Int32 → Int32 → CSt → Option (Sum Nat Int32 × CSt)} {u : CSt} (h_ro : ∀ q z a b u, KV (ro q z a b u) u) : KV (B_X0_arguments_60 N ro u) u := by
  unfold B_X0_arguments_60
  refine KV_bt (kv_F_X0_closes.tr jv_rf) (fun _ _ => ?_)
  exact KV_some jv_rf
theorem kv_B_X0_arguments_24 {N : Nat} {ro : Nat → Nat → Int32 → Int32 → CSt → Option (Sum Nat Int32 × CSt)} {R_24 : Int32 × CSt → Option ((Sum Nat Int32) × CSt)} {l1 : Int32} {u : CSt} (h_ro : ∀ q z a b u, KV (ro q z a b u) u) (h_R_24 : ∀ a, KV (R_24 a) a.2) : KV (B_X0_arguments_24 N ro R_24 l1 u) u := by
  unfold B_X0_arguments_24
  refine KV_if ?_ ?_
  · skip
    exact (kv_B_X0_arguments_60 h_ro).tr jv_rf
  · skip
    refine KV_bc (kv_F_X9_is.tr jv_rf) (fun _ _ => ?_)
    refine KV_if ?_ ?_
    · skip
      exact (kv_B_X0_arguments_60 h_ro).tr jv_rf
    · skip
      refine KV_bc (kv_F_X9_next.tr jv_rf) (fun _ _ => ?_)
      refine KV_bt ((h_ro _ _ _ _ _).tr jv_rf) (fun _ _ => ?_)
      exact (h_R_24 _).tr jv_rf
theorem kv_LP_X0_arguments_24 {N : Nat} {ro : Nat → Nat → Int32 → Int32 → CSt → Option (Sum Nat Int32 × CSt)} (h_ro : ∀ q z a b u, KV (ro q z a b u) u) (n : Nat) : ∀ a : Int32 × CSt, KV (LP_X0_arguments_24 N ro n a) a.2 := by
  induction n with
  | zero => exact fun a r z e => by have e : (none : Option _) = some (r, z) := e; cases e
  | succ n ih =>
    intro a
    show KV (B_X0_arguments_24 N ro (LP_X0_arguments_24 N ro n) a.1 a.2) a.2
    exact kv_B_X0_arguments_24 h_ro ih
theorem kv_B_X0_arguments_22 {N : Nat} {ro : Nat → Nat → Int32 → Int32 → CSt → Option (Sum Nat Int32 × CSt)} {u : CSt} (h_ro : ∀ q z a b u, KV (ro q z a b u) u) : KV (B_X0_arguments_22 N ro u) u := by
  unfold B_X0_arguments_22
  exact (kv_LP_X0_arguments_24 h_ro _ _).tr jv_rf
theorem kv_B_X0_arguments_0 {N : Nat} {ro : Nat → Nat → Int32 → Int32 → CSt → Option (Sum Nat Int32 × CSt)} {u : CSt} (h_ro : ∀ q z a b u, KV (ro q z a b u) u) : KV (B_X0_arguments_0 N ro u) u := by
  unfold B_X0_arguments_0
  refine KV_bt (kv_F_X0_opens.tr jv_rf) (fun _ _ => ?_)
  refine KV_bc (kv_F_X9_is.tr jv_rf) (fun _ _ => ?_)
  refine KV_if ?_ ?_
  · skip
    refine KV_bt ((h_ro _ _ _ _ _).tr jv_rf) (fun _ _ => ?_)
    exact (kv_B_X0_arguments_22 h_ro).tr jv_rf
  · skip
    exact (kv_B_X0_arguments_22 h_ro).tr jv_rf
theorem kv_F_X0_arguments {N : Nat} {ro : Nat → Nat → Int32 → Int32 → CSt → Option (Sum Nat Int32 × CSt)} {u : CSt} (h_ro : ∀ q z a b u, KV (ro q z a b u) u) : KV (F_X0_arguments N ro u) u := by
  unfold F_X0_arguments
  exact (kv_B_X0_arguments_0 h_ro).tr jv_rf
theorem kv_B_X0_index_0 {N : Nat} {ro : Nat → Nat → Int32 → Int32 → CSt → Option (Sum Nat Int32 × CSt)} {u : CSt} (h_ro : ∀ q z a b u, KV (ro q z a b u) u) : KV (B_X0_index_0 N ro u) u := by
  unfold B_X0_index_0
  refine KV_bc (kv_F_X9_is.tr jv_rf) (fun _ _ => ?_)
  refine KV_if ?_ ?_
  · skip
    exact KV_some jv_rf
  · skip
    refine KV_bt (kv_F_X0_opens.tr jv_rf) (fun _ _ => ?_)
    refine KV_bt ((h_ro _ _ _ _ _).tr jv_rf) (fun _ _ => ?_)
    refine KV_bt (kv_F_X0_closes.tr jv_rf) (fun _ _ => ?_)
    exact KV_some jv_rf
theorem kv_F_X0_index {N : Nat} {ro : Nat → Nat → Int32 → Int32 → CSt → Option (Sum Nat Int32 × CSt)} {u : CSt} (h_ro : ∀ q z a b u, KV (ro q z a b u) u) : KV (F_X0_index N ro u) u := by
  unfold F_X0_index
  exact (kv_B_X0_index_0 h_ro).tr jv_rf
theorem kv_FGE_ {N : Nat} : ∀ (d q z : Nat) (a b : Int32) (u : CSt), KV (FGE_ N d q z a b u) u := by
  intro d
  induction d with
  | zero => exact fun q z a b u => KV_none
  | succ d ih =>
    intro q z a b u
    show KV (if q = 0 then F_X0_expression N (FGE_ N d) u else if q = 1 then F_X0_operand N (FGE_ N d) u else if q = 2 then F_X0_bracket N (FGE_ N d) u else if q = 3 then F_X0_namedOperand N (FGE_ N d) u else if q = 4 then F_X0_arguments N (FGE_ N d) u else if q = 5 then F_X0_index N (FGE_ N d) u else none) u
    refine KV_if (kv_F_X0_expression ih) ?_
    refine KV_if (kv_F_X0_operand ih) ?_
    refine KV_if (kv_F_X0_bracket ih) ?_
    refine KV_if (kv_F_X0_namedOperand ih) ?_
    refine KV_if (kv_F_X0_arguments ih) ?_
    refine KV_if (kv_F_X0_index ih) ?_
    exact KV_none
theorem kv_G_X0_expression {N : Nat} {u : CSt} : KV (G_X0_expression N u) u := kv_FGE_ _ _ _ _ _ _
theorem kv_G_X0_arguments {N : Nat} {u : CSt} : KV (G_X0_arguments N u) u := kv_FGE_ _ _ _ _ _ _
theorem kv_G_X0_index {N : Nat} {u : CSt} : KV (G_X0_index N u) u := kv_FGE_ _ _ _ _ _ _
theorem kv_B_X0_named_108 {N : Nat} {u : CSt}  : KV (B_X0_named_108 N u) u := by
  unfold B_X0_named_108
  refine KV_bt (kv_F_X9_take.tr jv_rf) (fun _ _ => ?_)
  exact KV_some jv_rf
theorem kv_B_X0_named_63 {N : Nat} {u : CSt}  : KV (B_X0_named_63 N u) u := by
  unfold B_X0_named_63
  refine KV_bc (kv_F_X9_next.tr jv_rf) (fun _ _ => ?_)
  refine KV_bt (kv_G_X0_expression.tr jv_rf) (fun _ _ => ?_)
  exact kv_B_X0_named_108.tr jv_rf
theorem kv_B_X0_named_91 {N : Nat} {u : CSt}  : KV (B_X0_named_91 N u) u := by
  unfold B_X0_named_91
  refine KV_bc (kv_F_X9_next.tr jv_rf) (fun _ _ => ?_)
  exact kv_B_X0_named_108.tr jv_rf
theorem kv_B_X0_named_0 {N : Nat} {u : CSt}  : KV (B_X0_named_0 N u) u := by
  unfold B_X0_named_0
  refine KV_bc (kv_F_X9_next.tr jv_rf) (fun _ _ => ?_)
  refine KV_bc (kv_F_X9_is.tr jv_rf) (fun _ _ => ?_)
  refine KV_if ?_ ?_
  · skip
    refine KV_bt (kv_G_X0_index.tr jv_rf) (fun _ _ => ?_)
    refine KV_bt (kv_F_X0_bit.tr jv_rf) (fun _ _ => ?_)
    refine KV_bc (kv_F_X9_type.tr jv_rf) (fun _ _ => ?_)
    refine KV_if ?_ ?_
    · skip
      exact kv_B_X0_named_63.tr jv_rf
    · skip
      refine KV_pb (fun _ => ?_)
      refine KV_if ?_ ?_
      · skip
        refine KV_if ?_ ?_
        · skip
          exact kv_B_X0_named_91.tr jv_rf
        · skip
          refine KV_if ?_ ?_
          · skip
            exact kv_B_X0_named_91.tr jv_rf
          · skip
            refine KV_bt (kv_F_X9_refuseToken.tr jv_rf) (fun _ _ => ?_)
            exact kv_B_X0_named_108.tr jv_rf
      · skip
        exact kv_B_X0_named_63.tr jv_rf
  · skip
    refine KV_bt (kv_G_X0_arguments.tr jv_rf) (fun _ _ => ?_)
    refine KV_bt (kv_F_X9_take.tr jv_rf) (fun _ _ => ?_)
    exact KV_some jv_rf
theorem kv_F_X0_named {N : Nat} {u : CSt}  : KV (F_X0_named N u) u := by
  unfold F_X0_named
  exact kv_B_X0_named_0.tr jv_rf
theorem kv_B_X0_returned_23 {N : Nat} {u : CSt}  : KV (B_X0_returned_23 N u) u := by
  unfold B_X0_returned_23
  refine KV_bt (kv_F_X9_take.tr jv_rf) (fun _ _ => ?_)
  exact KV_some jv_rf
theorem kv_B_X0_returned_0 {N : Nat} {u : CSt}  : KV (B_X0_returned_0 N u) u := by
  unfold B_X0_returned_0
  refine KV_bc (kv_F_X9_next.tr jv_rf) (fun _ _ => ?_)
  refine KV_bc (kv_F_X9_is.tr jv_rf) (fun _ _ => ?_)
  refine KV_if ?_ ?_
  · skip
    refine KV_bt (kv_G_X0_expression.tr jv_rf) (fun _ _ => ?_)
    exact kv_B_X0_returned_23.tr jv_rf
  · skip
    exact kv_B_X0_returned_23.tr jv_rf
theorem kv_F_X0_returned {N : Nat} {u : CSt}  : KV (F_X0_returned N u) u := by
  unfold F_X0_returned
  exact kv_B_X0_returned_0.tr jv_rf
theorem kv_B_X0_body_0 {N : Nat} {ro : Nat → Nat → Int32 → Int32 → CSt → Option (Sum Nat Int32 × CSt)} {u : CSt} (h_ro : ∀ q z a b u, KV (ro q z a b u) u) : KV (B_X0_body_0 N ro u) u := by
  unfold B_X0_body_0
  refine KV_bt (kv_F_X0_opens.tr jv_rf) (fun _ _ => ?_)
  refine KV_bt ((h_ro _ _ _ _ _).tr jv_rf) (fun _ _ => ?_)
  exact KV_some jv_rf
theorem kv_F_X0_body {N : Nat} {ro : Nat → Nat → Int32 → Int32 → CSt → Option (Sum Nat Int32 × CSt)} {u : CSt} (h_ro : ∀ q z a b u, KV (ro q z a b u) u) : KV (F_X0_body N ro u) u := by
  unfold F_X0_body
  exact (kv_B_X0_body_0 h_ro).tr jv_rf
theorem kv_B_X0_statements_31 {N : Nat} {ro : Nat → Nat → Int32 → Int32 → CSt → Option (Sum Nat Int32 × CSt)} {u : CSt} (h_ro : ∀ q z a b u, KV (ro q z a b u) u) : KV (B_X0_statements_31 N ro u) u := by
  unfold B_X0_statements_31
  refine KV_bt (kv_F_X0_closes.tr jv_rf) (fun _ _ => ?_)
  exact KV_some jv_rf
theorem kv_B_X0_statements_2 {N : Nat} {ro : Nat → Nat → Int32 → Int32 → CSt → Option (Sum Nat Int32 × CSt)} {R_2 : Int32 × CSt → Option ((Sum Nat Int32) × CSt)} {l1 : Int32} {u : CSt} (h_ro : ∀ q z a b u, KV (ro q z a b u) u) (h_R_2 : ∀ a, KV (R_2 a) a.2) : KV (B_X0_statements_2 N ro R_2 l1 u) u := by
  unfold B_X0_statements_2
  refine KV_if ?_ ?_
  · skip
    exact (kv_B_X0_statements_31 h_ro).tr jv_rf
  · skip
    refine KV_bc (kv_F_X9_is.tr jv_rf) (fun _ _ => ?_)
    refine KV_if ?_ ?_
    · skip
      refine KV_bt ((h_ro _ _ _ _ _).tr jv_rf) (fun _ _ => ?_)
      exact (h_R_2 _).tr jv_rf
    · skip
      exact (kv_B_X0_statements_31 h_ro).tr jv_rf
theorem kv_LP_X0_statements_2 {N : Nat} {ro : Nat → Nat → Int32 → Int32 → CSt → Option (Sum Nat Int32 × CSt)} (h_ro : ∀ q z a b u, KV (ro q z a b u) u) (n : Nat) : ∀ a : Int32 × CSt, KV (LP_X0_statements_2 N ro n a) a.2 := by
  induction n with
  | zero => exact fun a r z e => by have e : (none : Option _) = some (r, z) := e; cases e
  | succ n ih =>
    intro a
    show KV (B_X0_statements_2 N ro (LP_X0_statements_2 N ro n) a.1 a.2) a.2
    exact kv_B_X0_statements_2 h_ro ih
theorem kv_B_X0_statements_0 {N : Nat} {ro : Nat → Nat → Int32 → Int32 → CSt → Option (Sum Nat Int32 × CSt)} {u : CSt} (h_ro : ∀ q z a b u, KV (ro q z a b u) u) : KV (B_X0_statements_0 N ro u) u := by
  unfold B_X0_statements_0
  exact (kv_LP_X0_statements_2 h_ro _ _).tr jv_rf
theorem kv_F_X0_statements {N : Nat} {ro : Nat → Nat → Int32 → Int32 → CSt → Option (Sum Nat Int32 × CSt)} {u : CSt} (h_ro : ∀ q z a b u, KV (ro q z a b u) u) : KV (F_X0_statements N ro u) u := by
  unfold F_X0_statements
  exact (kv_B_X0_statements_0 h_ro).tr jv_rf
theorem kv_B_X0_statement_0 {N : Nat} {ro : Nat → Nat → Int32 → Int32 → CSt → Option (Sum Nat Int32 × CSt)} {u : CSt} (h_ro : ∀ q z a b u, KV (ro q z a b u) u) : KV (B_X0_statement_0 N ro u) u := by
  unfold B_X0_statement_0
  refine KV_bc (kv_F_X9_type.tr jv_rf) (fun _ _ => ?_)
  refine KV_if ?_ ?_
  · skip
    refine KV_bt ((h_ro _ _ _ _ _).tr jv_rf) (fun _ _ => ?_)
    exact KV_some jv_rf
  · skip
    refine KV_if ?_ ?_
    · skip
      refine KV_bc (kv_F_X9_next.tr jv_rf) (fun _ _ => ?_)
      refine KV_bt (kv_G_X0_expression.tr jv_rf) (fun _ _ => ?_)
      refine KV_bt ((h_ro _ _ _ _ _).tr jv_rf) (fun _ _ => ?_)
      exact KV_some jv_rf
    · skip
      refine KV_if ?_ ?_
      · skip
        refine KV_bt ((h_ro _ _ _ _ _).tr jv_rf) (fun _ _ => ?_)
        exact KV_some jv_rf
      · skip
        refine KV_if ?_ ?_
        · skip
          refine KV_bt ((h_ro _ _ _ _ _).tr jv_rf) (fun _ _ => ?_)
          exact KV_some jv_rf
        · skip
          refine KV_if ?_ ?_
          · skip
            refine KV_bc (kv_F_X9_next.tr jv_rf) (fun _ _ => ?_)
            refine KV_bt (kv_F_X9_take.tr jv_rf) (fun _ _ => ?_)
            exact KV_some jv_rf
          · skip
            refine KV_if ?_ ?_
            · skip
              refine KV_bc (kv_F_X9_next.tr jv_rf) (fun _ _ => ?_)
              refine KV_bt (kv_F_X9_take.tr jv_rf) (fun _ _ => ?_)
              exact KV_some jv_rf
            · skip
              refine KV_if ?_ ?_
              · skip
                refine KV_bt (kv_F_X0_returned.tr jv_rf) (fun _ _ => ?_)
                exact KV_some jv_rf
              · skip
                refine KV_if ?_ ?_
                · skip
                  refine KV_bc (kv_F_X9_next.tr jv_rf) (fun _ _ => ?_)
                  refine KV_bt (kv_G_X0_expression.tr jv_rf) (fun _ _ => ?_)
                  refine KV_bt (kv_F_X9_take.tr jv_rf) (fun _ _ => ?_)
                  exact KV_some jv_rf
                · skip
                  refine KV_if ?_ ?_
                  · skip
                    refine KV_bt (kv_F_X0_named.tr jv_rf) (fun _ _ => ?_)
                    exact KV_some jv_rf
                  · skip
                    refine KV_bt (kv_F_X9_refuseToken.tr jv_rf) (fun _ _ => ?_)
                    exact KV_some jv_rf
theorem kv_F_X0_statement {N : Nat} {ro : Nat → Nat → Int32 → Int32 → CSt → Option (Sum Nat Int32 × CSt)} {u : CSt} (h_ro : ∀ q z a b u, KV (ro q z a b u) u) : KV (F_X0_statement N ro u) u := by
  unfold F_X0_statement
  exact (kv_B_X0_statement_0 h_ro).tr jv_rf
theorem kv_B_X0_choice_57 {N : Nat} {ro : Nat → Nat → Int32 → Int32 → CSt → Option (Sum Nat Int32 × CSt)} {u : CSt} (h_ro : ∀ q z a b u, KV (ro q z a b u) u) : KV (B_X0_choice_57 N ro u) u := by
  unfold B_X0_choice_57
  refine KV_bc (kv_F_X9_is.tr jv_rf) (fun _ _ => ?_)
  refine KV_if ?_ ?_
  · skip
    exact KV_some jv_rf
  · skip
    refine KV_bc (kv_F_X9_next.tr jv_rf) (fun _ _ => ?_)
    refine KV_bt ((h_ro _ _ _ _ _).tr jv_rf) (fun _ _ => ?_)
    exact KV_some jv_rf
theorem kv_B_X0_choice_17 {N : Nat} {ro : Nat → Nat → Int32 → Int32 → CSt → Option (Sum Nat Int32 × CSt)} {R_17 : Int32 × CSt → Option ((Sum Nat Int32) × CSt)} {l1 : Int32} {u : CSt} (h_ro : ∀ q z a b u, KV (ro q z a b u) u) (h_R_17 : ∀ a, KV (R_17 a) a.2) : KV (B_X0_choice_17 N ro R_17 l1 u) u := by
  unfold B_X0_choice_17
  refine KV_if ?_ ?_
  · skip
    exact (kv_B_X0_choice_57 h_ro).tr jv_rf
  · skip
    refine KV_bc (kv_F_X9_is.tr jv_rf) (fun _ _ => ?_)
    refine KV_if ?_ ?_
    · skip
      exact (kv_B_X0_choice_57 h_ro).tr jv_rf
    · skip
      refine KV_bc (kv_F_X9_next.tr jv_rf) (fun _ _ => ?_)
      refine KV_bt (kv_G_X0_expression.tr jv_rf) (fun _ _ => ?_)
      refine KV_bt ((h_ro _ _ _ _ _).tr jv_rf) (fun _ _ => ?_)
      exact (h_R_17 _).tr jv_rf
theorem kv_LP_X0_choice_17 {N : Nat} {ro : Nat → Nat → Int32 → Int32 → CSt → Option (Sum Nat Int32 × CSt)} (h_ro : ∀ q z a b u, KV (ro q z a b u) u) (n : Nat) : ∀ a : Int32 × CSt, KV (LP_X0_choice_17 N ro n a) a.2 := by
  induction n with
  | zero => exact fun a r z e => by have e : (none : Option _) = some (r, z) := e; cases e
  | succ n ih =>
    intro a
    show KV (B_X0_choice_17 N ro (LP_X0_choice_17 N ro n) a.1 a.2) a.2
    exact kv_B_X0_choice_17 h_ro ih
theorem kv_B_X0_choice_0 {N : Nat} {ro : Nat → Nat → Int32 → Int32 → CSt → Option (Sum Nat Int32 × CSt)} {u : CSt} (h_ro : ∀ q z a b u, KV (ro q z a b u) u) : KV (B_X0_choice_0 N ro u) u := by
  unfold B_X0_choice_0
  refine KV_bc (kv_F_X9_next.tr jv_rf) (fun _ _ => ?_)
  refine KV_bt (kv_G_X0_expression.tr jv_rf) (fun _ _ => ?_)
  refine KV_bt ((h_ro _ _ _ _ _).tr jv_rf) (fun _ _ => ?_)
  exact (kv_LP_X0_choice_17 h_ro _ _).tr jv_rf
theorem kv_F_X0_choice {N : Nat} {ro : Nat → Nat → Int32 → Int32 → CSt → Option (Sum Nat Int32 × CSt)} {u : CSt} (h_ro : ∀ q z a b u, KV (ro q z a b u) u) : KV (F_X0_choice N ro u) u := by
  unfold F_X0_choice
  exact (kv_B_X0_choice_0 h_ro).tr jv_rf
theorem kv_B_X0_counted_0 {N : Nat} {ro : Nat → Nat → Int32 → Int32 → CSt → Option (Sum Nat Int32 × CSt)} {u : CSt} (h_ro : ∀ q z a b u, KV (ro q z a b u) u) : KV (B_X0_counted_0 N ro u) u := by
  unfold B_X0_counted_0
  refine KV_bc (kv_F_X9_next.tr jv_rf) (fun _ _ => ?_)
  refine KV_bt (kv_F_X9_take.tr jv_rf) (fun _ _ => ?_)
  refine KV_bt (kv_F_X9_take.tr jv_rf) (fun _ _ => ?_)
  refine KV_bt (kv_G_X0_expression.tr jv_rf) (fun _ _ => ?_)
  refine KV_bt (kv_F_X9_take.tr jv_rf) (fun _ _ => ?_)
  refine KV_bt (kv_G_X0_expression.tr jv_rf) (fun _ _ => ?_)
  refine KV_bt ((h_ro _ _ _ _ _).tr jv_rf) (fun _ _ => ?_)
  exact KV_some jv_rf
theorem kv_F_X0_counted {N : Nat} {ro : Nat → Nat → Int32 → Int32 → CSt → Option (Sum Nat Int32 × CSt)} {u : CSt} (h_ro : ∀ q z a b u, KV (ro q z a b u) u) : KV (F_X0_counted N ro u) u := by
  unfold F_X0_counted
  exact (kv_B_X0_counted_0 h_ro).tr jv_rf
theorem kv_B_X0_cases_87 {N : Nat} {ro : Nat → Nat → Int32 → Int32 → CSt → Option (Sum Nat Int32 × CSt)} {R_19 : Int32 × CSt → Option ((Sum Nat Int32) × CSt)} {l1 : Int32} {u : CSt} (h_ro : ∀ q z a b u, KV (ro q z a b u) u) (h_R_19 : ∀ a, KV (R_19 a) a.2) : KV (B_X0_cases_87 N ro R_19 l1 u) u := by
  unfold B_X0_cases_87
  refine KV_bt ((h_ro _ _ _ _ _).tr jv_rf) (fun _ _ => ?_)
  exact (h_R_19 _).tr jv_rf
theorem kv_B_X0_cases_51 {N : Nat} {ro : Nat → Nat → Int32 → Int32 → CSt → Option (Sum Nat Int32 × CSt)} {R_19 : Int32 × CSt → Option ((Sum Nat Int32) × CSt)} {R_51 : Int32 × Int32 × CSt → Option ((Sum Nat Int32) × CSt)} {l1 : Int32} {l2 : Int32} {u : CSt} (h_ro : ∀ q z a b u, KV (ro q z a b u) u) (h_R_19 : ∀ a, KV (R_19 a) a.2) (h_R_51 : ∀ a, KV (R_51 a) a.2.2) : KV (B_X0_cases_51 N ro R_19 R_51 l1 l2 u) u := by
  unfold B_X0_cases_51
  refine KV_if ?_ ?_
  · skip
    exact (kv_B_X0_cases_87 h_ro h_R_19).tr jv_rf
  · skip
    refine KV_bc (kv_F_X9_is.tr jv_rf) (fun _ _ => ?_)
    refine KV_if ?_ ?_
    · skip
      exact (kv_B_X0_cases_87 h_ro h_R_19).tr jv_rf
    · skip
      refine KV_bc (kv_F_X9_next.tr jv_rf) (fun _ _ => ?_)
      refine KV_bt (kv_F_X0_label.tr jv_rf) (fun _ _ => ?_)
      exact (h_R_51 _).tr jv_rf
theorem kv_LP_X0_cases_51 {N : Nat} {ro : Nat → Nat → Int32 → Int32 → CSt → Option (Sum Nat Int32 × CSt)} {R_19 : Int32 × CSt → Option ((Sum Nat Int32) × CSt)} (h_ro : ∀ q z a b u, KV (ro q z a b u) u) (h_R_19 : ∀ a, KV (R_19 a) a.2) (n : Nat) : ∀ a : Int32 × Int32 × CSt, KV (LP_X0_cases_51 N ro R_19 n a) a.2.2 := by
  induction n with
  | zero => exact fun a r z e => by have e : (none : Option _) = some (r, z) := e; cases e
  | succ n ih =>
    intro a
    show KV (B_X0_cases_51 N ro R_19 (LP_X0_cases_51 N ro R_19 n) a.1 a.2.1 a.2.2) a.2.2
    exact kv_B_X0_cases_51 h_ro h_R_19 ih
theorem kv_B_X0_cases_120 {N : Nat} {ro : Nat → Nat → Int32 → Int32 → CSt → Option (Sum Nat Int32 × CSt)} {u : CSt} (h_ro : ∀ q z a b u, KV (ro q z a b u) u) : KV (B_X0_cases_120 N ro u) u := by
  unfold B_X0_cases_120
  refine KV_bt (kv_F_X0_closes.tr jv_rf) (fun _ _ => ?_)
  exact KV_some jv_rf
theorem kv_B_X0_cases_97 {N : Nat} {ro : Nat → Nat → Int32 → Int32 → CSt → Option (Sum Nat Int32 × CSt)} {u : CSt} (h_ro : ∀ q z a b u, KV (ro q z a b u) u) : KV (B_X0_cases_97 N ro u) u := by
  unfold B_X0_cases_97
  refine KV_bc (kv_F_X9_is.tr jv_rf) (fun _ _ => ?_)
  refine KV_if ?_ ?_
  · skip
    exact (kv_B_X0_cases_120 h_ro).tr jv_rf
  · skip
    refine KV_bc (kv_F_X9_next.tr jv_rf) (fun _ _ => ?_)
    refine KV_bt ((h_ro _ _ _ _ _).tr jv_rf) (fun _ _ => ?_)
    exact (kv_B_X0_cases_120 h_ro).tr jv_rf
theorem kv_B_X0_cases_19 {N : Nat} {ro : Nat → Nat → Int32 → Int32 → CSt → Option (Sum Nat Int32 × CSt)} {R_19 : Int32 × CSt → Option ((Sum Nat Int32) × CSt)} {l1 : Int32} {u : CSt} (h_ro : ∀ q z a b u, KV (ro q z a b u) u) (h_R_19 : ∀ a, KV (R_19 a) a.2) : KV (B_X0_cases_19 N ro R_19 l1 u) u := by
  unfold B_X0_cases_19
  refine KV_if ?_ ?_
  · skip
    exact (kv_B_X0_cases_97 h_ro).tr jv_rf
  · skip
    refine KV_bc (kv_F_X9_is.tr jv_rf) (fun _ _ => ?_)
    refine KV_if ?_ ?_
    · skip
      exact (kv_B_X0_cases_97 h_ro).tr jv_rf
    · skip
      refine KV_bc (kv_F_X9_next.tr jv_rf) (fun _ _ => ?_)
      refine KV_bt (kv_F_X0_label.tr jv_rf) (fun _ _ => ?_)
      exact (kv_LP_X0_cases_51 h_ro h_R_19 _ _).tr jv_rf
theorem kv_LP_X0_cases_19 {N : Nat} {ro : Nat → Nat → Int32 → Int32 → CSt → Option (Sum Nat Int32 × CSt)} (h_ro : ∀ q z a b u, KV (ro q z a b u) u) (n : Nat) : ∀ a : Int32 × CSt, KV (LP_X0_cases_19 N ro n a) a.2 := by
  induction n with
  | zero => exact fun a r z e => by have e : (none : Option _) = some (r, z) := e; cases e
  | succ n ih =>
    intro a
    show KV (B_X0_cases_19 N ro (LP_X0_cases_19 N ro n) a.1 a.2) a.2
    exact kv_B_X0_cases_19 h_ro ih
theorem kv_B_X0_cases_0 {N : Nat} {ro : Nat → Nat → Int32 → Int32 → CSt → Option (Sum Nat Int32 × CSt)} {u : CSt} (h_ro : ∀ q z a b u, KV (ro q z a b u) u) : KV (B_X0_cases_0 N ro u) u := by
  unfold B_X0_cases_0
  refine KV_bc (kv_F_X9_next.tr jv_rf) (fun _ _ => ?_)
  refine KV_bt (kv_G_X0_expression.tr jv_rf) (fun _ _ => ?_)
  refine KV_bt (kv_F_X0_opens.tr jv_rf) (fun _ _ => ?_)
  exact (kv_LP_X0_cases_19 h_ro _ _).tr jv_rf
theorem kv_F_X0_cases {N : Nat} {ro : Nat → Nat → Int32 → Int32 → CSt → Option (Sum Nat Int32 × CSt)} {u : CSt} (h_ro : ∀ q z a b u, KV (ro q z a b u) u) : KV (F_X0_cases N ro u) u := by
  unfold F_X0_cases
  exact (kv_B_X0_cases_0 h_ro).tr jv_rf
theorem kv_FGS_ {N : Nat} : ∀ (d q z : Nat) (a b : Int32) (u : CSt), KV (FGS_ N d q z a b u) u := by
  intro d
  induction d with
  | zero => exact fun q z a b u => KV_none
  | succ d ih =>
    intro q z a b u
    show KV (if q = 0 then F_X0_body N (FGS_ N d) u else if q = 1 then F_X0_statements N (FGS_ N d) u else if q = 2 then F_X0_statement N (FGS_ N d) u else if q = 3 then F_X0_choice N (FGS_ N d) u else if q = 4 then F_X0_counted N (FGS_ N d) u else if q = 5 then F_X0_cases N (FGS_ N d) u else none) u
    refine KV_if (kv_F_X0_body ih) ?_
    refine KV_if (kv_F_X0_statements ih) ?_
    refine KV_if (kv_F_X0_statement ih) ?_
    refine KV_if (kv_F_X0_choice ih) ?_
    refine KV_if (kv_F_X0_counted ih) ?_
    refine KV_if (kv_F_X0_cases ih) ?_
    exact KV_none
theorem kv_G_X0_body {N : Nat} {u : CSt} : KV (G_X0_body N u) u := kv_FGS_ _ _ _ _ _ _
theorem kv_G_X0_statements {N : Nat} {u : CSt} : KV (G_X0_statements N u) u := kv_FGS_ _ _ _ _ _ _
theorem kv_B_X0_routine_132 {N : Nat} {u : CSt}  : KV (B_X0_routine_132 N u) u := by
  unfold B_X0_routine_132
  refine KV_bt (kv_G_X0_statements.tr jv_rf) (fun _ _ => ?_)
  exact KV_some jv_rf
theorem kv_B_X0_routine_104 {N : Nat} {R_104 : Int32 × CSt → Option ((Sum Nat Int32) × CSt)} {l1 : Int32} {u : CSt} (h_R_104 : ∀ a, KV (R_104 a) a.2) : KV (B_X0_routine_104 N R_104 l1 u) u := by
  unfold B_X0_routine_104
  refine KV_if ?_ ?_
  · skip
    exact kv_B_X0_routine_132.tr jv_rf
  · skip
    refine KV_bc (kv_F_X9_is.tr jv_rf) (fun _ _ => ?_)
    refine KV_if ?_ ?_
    · skip
      exact kv_B_X0_routine_132.tr jv_rf
    · skip
      refine KV_bt (kv_F_X0_variables.tr jv_rf) (fun _ _ => ?_)
      exact (h_R_104 _).tr jv_rf
theorem kv_LP_X0_routine_104 {N : Nat}  (n : Nat) : ∀ a : Int32 × CSt, KV (LP_X0_routine_104 N n a) a.2 := by
  induction n with
  | zero => exact fun a r z e => by have e : (none : Option _) = some (r, z) := e; cases e
  | succ n ih =>
    intro a
    show KV (B_X0_routine_104 N (LP_X0_routine_104 N n) a.1 a.2) a.2
    exact kv_B_X0_routine_104 ih
theorem kv_B_X0_routine_90 {N : Nat} {u : CSt}  : KV (B_X0_routine_90 N u) u := by
  unfold B_X0_routine_90
  refine KV_bt (kv_F_X0_closes.tr jv_rf) (fun _ _ => ?_)
  refine KV_bt (kv_F_X0_opens.tr jv_rf) (fun _ _ => ?_)
  exact (kv_LP_X0_routine_104  _ _).tr jv_rf
theorem kv_B_X0_routine_44 {N : Nat} {R_44 : Int32 × CSt → Option ((Sum Nat Int32) × CSt)} {l1 : Int32} {u : CSt} (h_R_44 : ∀ a, KV (R_44 a) a.2) : KV (B_X0_routine_44 N R_44 l1 u) u := by
  unfold B_X0_routine_44
  refine KV_if ?_ ?_
  · skip
    exact kv_B_X0_routine_90.tr jv_rf
  · skip
    refine KV_bc (kv_F_X9_is.tr jv_rf) (fun _ _ => ?_)
    refine KV_if ?_ ?_
    · skip
      exact kv_B_X0_routine_90.tr jv_rf
    · skip
      refine KV_bc (kv_F_X9_next.tr jv_rf) (fun _ _ => ?_)
      refine KV_bt (kv_F_X0_kind.tr jv_rf) (fun _ _ => ?_)
      refine KV_bt (kv_F_X9_take.tr jv_rf) (fun _ _ => ?_)
      exact (h_R_44 _).tr jv_rf
theorem kv_LP_X0_routine_44 {N : Nat}  (n : Nat) : ∀ a : Int32 × CSt, KV (LP_X0_routine_44 N n a) a.2 := by
  induction n with
  | zero => exact fun a r z e => by have e : (none : Option _) = some (r, z) := e; cases e
  | succ n ih =>
    intro a
    show KV (B_X0_routine_44 N (LP_X0_routine_44 N n) a.1 a.2) a.2
    exact kv_B_X0_routine_44 ih
theorem kv_B_X0_routine_42 {N : Nat} {u : CSt}  : KV (B_X0_routine_42 N u) u := by
  unfold B_X0_routine_42
  exact (kv_LP_X0_routine_44  _ _).tr jv_rf
theorem kv_B_X0_routine_0 {N : Nat} {u : CSt}  : KV (B_X0_routine_0 N u) u := by
  unfold B_X0_routine_0
  refine KV_bt (kv_F_X9_take.tr jv_rf) (fun _ _ => ?_)
  refine KV_bt (kv_F_X0_opens.tr jv_rf) (fun _ _ => ?_)
  refine KV_bc (kv_F_X9_is.tr jv_rf) (fun _ _ => ?_)
  refine KV_if ?_ ?_
  · skip
    refine KV_bt (kv_F_X0_kind.tr jv_rf) (fun _ _ => ?_)
    refine KV_bt (kv_F_X9_take.tr jv_rf) (fun _ _ => ?_)
    exact kv_B_X0_routine_42.tr jv_rf
  · skip
    exact kv_B_X0_routine_42.tr jv_rf
theorem kv_F_X0_routine {N : Nat} {u : CSt}  : KV (F_X0_routine N u) u := by
  unfold F_X0_routine
  exact kv_B_X0_routine_0.tr jv_rf
theorem kv_B_X0_cyclic_65 {N : Nat} {u : CSt}  : KV (B_X0_cyclic_65 N u) u := by
  unfold B_X0_cyclic_65
  refine KV_bt (kv_G_X0_body.tr jv_rf) (fun _ _ => ?_)
  exact KV_some jv_rf
theorem kv_B_X0_cyclic_0 {N : Nat} {u : CSt}  : KV (B_X0_cyclic_0 N u) u := by
  unfold B_X0_cyclic_0
  refine KV_bc (kv_F_X9_next.tr jv_rf) (fun _ _ => ?_)
  refine KV_bt (kv_F_X9_take.tr jv_rf) (fun _ _ => ?_)
  refine KV_bt (kv_F_X9_take.tr jv_rf) (fun _ _ => ?_)
  refine KV_bt (kv_F_X9_take.tr jv_rf) (fun _ _ => ?_)
  refine KV_bc (kv_F_X9_is.tr jv_rf) (fun _ _ => ?_)
  refine KV_if ?_ ?_
  · skip
    exact kv_B_X0_cyclic_65.tr jv_rf
  · skip
    refine KV_bc (kv_F_X9_next.tr jv_rf) (fun _ _ => ?_)
    refine KV_bt (kv_F_X9_take.tr jv_rf) (fun _ _ => ?_)
    exact kv_B_X0_cyclic_65.tr jv_rf
theorem kv_F_X0_cyclic {N : Nat} {u : CSt}  : KV (F_X0_cyclic N u) u := by
  unfold F_X0_cyclic
  exact kv_B_X0_cyclic_0.tr jv_rf
theorem kv_B_X0_check_155 {N : Nat} {R_14 : Int32 × CSt → Option ((Sum Nat Int32) × CSt)} {l1 : Int32} {u : CSt} (h_R_14 : ∀ a, KV (R_14 a) a.2) : KV (B_X0_check_155 N R_14 l1 u) u := by
  unfold B_X0_check_155
  exact (h_R_14 _).tr jv_rf
theorem kv_B_X0_check_14 {N : Nat} {R_14 : Int32 × CSt → Option ((Sum Nat Int32) × CSt)} {l1 : Int32} {u : CSt} (h_R_14 : ∀ a, KV (R_14 a) a.2) : KV (B_X0_check_14 N R_14 l1 u) u := by
  unfold B_X0_check_14
  refine KV_if ?_ ?_
  · skip
    exact KV_some jv_rf
  · skip
    refine KV_bc (kv_F_X9_is.tr jv_rf) (fun _ _ => ?_)
    refine KV_if ?_ ?_
    · skip
      refine KV_bc (kv_F_X9_type.tr jv_rf) (fun _ _ => ?_)
      refine KV_if ?_ ?_
      · skip
        refine KV_bt (kv_F_X0_variables.tr jv_rf) (fun _ _ => ?_)
        exact (kv_B_X0_check_155 h_R_14).tr jv_rf
      · skip
        refine KV_if ?_ ?_
        · skip
          refine KV_bt (kv_F_X0_variables.tr jv_rf) (fun _ _ => ?_)
          exact (kv_B_X0_check_155 h_R_14).tr jv_rf
        · skip
          refine KV_if ?_ ?_
          · skip
            refine KV_bt (kv_F_X0_placed.tr jv_rf) (fun _ _ => ?_)
            exact (kv_B_X0_check_155 h_R_14).tr jv_rf
          · skip
            refine KV_if ?_ ?_
            · skip
              refine KV_bt (kv_F_X0_placed.tr jv_rf) (fun _ _ => ?_)
              exact (kv_B_X0_check_155 h_R_14).tr jv_rf
            · skip
              refine KV_if ?_ ?_
              · skip
                refine KV_bc (kv_F_X9_next.tr jv_rf) (fun _ _ => ?_)
                refine KV_bt (kv_F_X0_routine.tr jv_rf) (fun _ _ => ?_)
                exact (kv_B_X0_check_155 h_R_14).tr jv_rf
              · skip
                refine KV_if ?_ ?_
                · skip
                  refine KV_bt (kv_F_X0_uses.tr jv_rf) (fun _ _ => ?_)
                  exact (kv_B_X0_check_155 h_R_14).tr jv_rf
                · skip
                  refine KV_if ?_ ?_
                  · skip
                    refine KV_bc (kv_F_X9_next.tr jv_rf) (fun _ _ => ?_)
                    refine KV_bt (kv_F_X0_kind.tr jv_rf) (fun _ _ => ?_)
                    refine KV_bt (kv_F_X0_routine.tr jv_rf) (fun _ _ => ?_)
                    exact (kv_B_X0_check_155 h_R_14).tr jv_rf
                  · skip
                    refine KV_if ?_ ?_
                    · skip
                      refine KV_bt (kv_F_X0_cyclic.tr jv_rf) (fun _ _ => ?_)
                      exact (kv_B_X0_check_155 h_R_14).tr jv_rf
                    · skip
                      refine KV_bt (kv_F_X9_refuseToken.tr jv_rf) (fun _ _ => ?_)
                      exact (kv_B_X0_check_155 h_R_14).tr jv_rf
    · skip
      exact KV_some jv_rf
theorem kv_LP_X0_check_14 {N : Nat}  (n : Nat) : ∀ a : Int32 × CSt, KV (LP_X0_check_14 N n a) a.2 := by
  induction n with
  | zero => exact fun a r z e => by have e : (none : Option _) = some (r, z) := e; cases e
  | succ n ih =>
    intro a
    show KV (B_X0_check_14 N (LP_X0_check_14 N n) a.1 a.2) a.2
    exact kv_B_X0_check_14 ih
theorem kv_B_X0_check_0 {N : Nat} {u : CSt}  : KV (B_X0_check_0 N u) u := by
  unfold B_X0_check_0
  refine KV_pc ?_
  refine KV_bc (kv_F_X9_rewind.tr (fv_xI (by first | decide | (refine ⟨?_, ?_⟩ <;> omega)) jv_rf)) (fun _ _ => ?_)
  exact (kv_LP_X0_check_14  _ _).tr jv_rf
theorem kv_F_X0_check {N : Nat} {u : CSt}  : KV (F_X0_check N u) u := by
  unfold F_X0_check
  exact kv_B_X0_check_0.tr jv_rf
theorem kv_B_X8_begin_0 {N : Nat} {l1 : Nat} {u : CSt}  : KV (B_X8_begin_0 N l1 u) u := by
  unfold B_X8_begin_0
  refine KV_pc ?_
  refine KV_pc ?_
  exact KV_some (fv_xI (by first | decide | (refine ⟨?_, ?_⟩ <;> omega)) (fv_xR jv_rf))
theorem kv_F_X8_begin {N : Nat} {l1 : Nat} {u : CSt}  : KV (F_X8_begin N l1 u) u := by
  unfold F_X8_begin
  exact kv_B_X8_begin_0.tr jv_rf
theorem kv_B_X8_known_0 {N : Nat} {u : CSt}  : KV (B_X8_known_0 N u) u := by
  unfold B_X8_known_0
  refine KV_bc (kv_F_X9_head.tr jv_rf) (fun _ _ => ?_)
  refine KV_bc (kv_F_X9_tail.tr jv_rf) (fun _ _ => ?_)
  refine KV_ok ?_
  refine KV_bc (kv_F_X6_name.tr jv_rf) (fun _ _ => ?_)
  refine KV_ok ?_
  refine KV_bc (kv_F_X6_localCalled.tr jv_rf) (fun _ _ => ?_)
  refine KV_ok ?_
  refine KV_if ?_ ?_
  · skip
    refine KV_ok ?_
    refine KV_bc (kv_F_X6_ofText.tr jv_rf) (fun _ _ => ?_)
    refine KV_ok ?_
    exact KV_some jv_rf
  · skip
    exact KV_some jv_rf
theorem kv_F_X8_known {N : Nat} {u : CSt}  : KV (F_X8_known N u) u := by
  unfold F_X8_known
  exact kv_B_X8_known_0.tr jv_rf
theorem kv_B_X8_placeName_63 {N : Nat} {l2 : Nat} {u : CSt}  : KV (B_X8_placeName_63 N l2 u) u := by
  unfold B_X8_placeName_63
  refine KV_bc (kv_F_X9_here.tr jv_rf) (fun _ _ => ?_)
  refine KV_bt (kv_F_X9_refuse.tr jv_rf) (fun _ _ => ?_)
  exact KV_some jv_rf
theorem kv_B_X8_placeName_49 {N : Nat} {l1 : Int32} {l2 : Nat} {s0 : Int32} {s1 : Int32} {u : CSt}  : KV (B_X8_placeName_49 N l1 l2 s0 s1 u) u := by
  unfold B_X8_placeName_49
  refine KV_if ?_ ?_
  · skip
    refine KV_if ?_ ?_
    · skip
      exact KV_some jv_rf
    · skip
      refine KV_bc (kv_F_X4_isInput.tr jv_rf) (fun _ _ => ?_)
      refine KV_if ?_ ?_
      · skip
        exact KV_some jv_rf
      · skip
        exact kv_B_X8_placeName_63.tr jv_rf
  · skip
    exact kv_B_X8_placeName_63.tr jv_rf
theorem kv_B_X8_placeName_27 {N : Nat} {l1 : Int32} {l2 : Nat} {u : CSt}  : KV (B_X8_placeName_27 N l1 l2 u) u := by
  unfold B_X8_placeName_27
  refine KV_bc (kv_F_X9_typeAhead.tr jv_rf) (fun _ _ => ?_)
  refine KV_if ?_ ?_
  · skip
    exact kv_B_X8_placeName_49.tr jv_rf
  · skip
    exact kv_B_X8_placeName_49.tr jv_rf
theorem kv_B_X8_placeName_0 {N : Nat} {l1 : Int32} {u : CSt}  : KV (B_X8_placeName_0 N l1 u) u := by
  unfold B_X8_placeName_0
  refine KV_bc (kv_F_X8_known.tr jv_rf) (fun _ _ => ?_)
  refine KV_ok ?_
  refine KV_bc (kv_F_X4_hasNumbers.tr jv_rf) (fun _ _ => ?_)
  refine KV_if ?_ ?_
  · skip
    refine KV_bc (kv_F_X9_here.tr jv_rf) (fun _ _ => ?_)
    refine KV_bt (kv_F_X9_refuse.tr jv_rf) (fun _ _ => ?_)
    exact kv_B_X8_placeName_27.tr jv_rf
  · skip
    exact kv_B_X8_placeName_27.tr jv_rf
theorem kv_F_X8_placeName {N : Nat} {l1 : Int32} {u : CSt}  : KV (F_X8_placeName N l1 u) u := by
  unfold F_X8_placeName
  exact kv_B_X8_placeName_0.tr jv_rf
theorem kv_B_X8_isTooWide_26 {N : Nat} {u : CSt}  : KV (B_X8_isTooWide_26 N u) u := by
  unfold B_X8_isTooWide_26
  exact KV_some jv_rf
theorem kv_B_X8_isTooWide_0 {N : Nat} {l1 : Int32} {l2 : Int32} {u : CSt}  : KV (B_X8_isTooWide_0 N l1 l2 u) u := by
  unfold B_X8_isTooWide_0
  refine KV_if ?_ ?_
  · skip
    refine KV_if ?_ ?_
    · skip
      exact kv_B_X8_isTooWide_26.tr jv_rf
    · skip
      refine KV_if ?_ ?_
      · skip
        exact kv_B_X8_isTooWide_26.tr jv_rf
      · skip
        exact KV_some jv_rf
  · skip
    exact KV_some jv_rf
theorem kv_F_X8_isTooWide {N : Nat} {l1 : Int32} {l2 : Int32} {u : CSt}  : KV (F_X8_isTooWide N l1 l2 u) u := by
  unfold F_X8_isTooWide
  exact kv_B_X8_isTooWide_0.tr jv_rf
theorem kv_B_X8_combine_25 {N : Nat} {l4 : Int32} {l5 : Int32} {s0 : Nat} {s1 : Int32} {s2 : Int32} {s3 : Int32} {u : CSt}  : KV (B_X8_combine_25 N l4 l5 s0 s1 s2 s3 u) u := by
  unfold B_X8_combine_25
  refine KV_bc (kv_F_X6_step.tr jv_rf) (fun _ _ => ?_)
  refine KV_if ?_ ?_
  · skip
    exact KV_some jv_rf
  · skip
    exact KV_some jv_rf
theorem kv_B_X8_combine_0 {N : Nat} {l1 : Int32} {l2 : Int32} {l3 : Int32} {l4 : Int32} {u : CSt}  : KV (B_X8_combine_0 N l1 l2 l3 l4 u) u := by
  unfold B_X8_combine_0
  refine KV_ok ?_
  refine KV_if ?_ ?_
  · skip
    exact kv_B_X8_combine_25.tr jv_rf
  · skip
    exact kv_B_X8_combine_25.tr jv_rf
theorem kv_F_X8_combine {N : Nat} {l1 : Int32} {l2 : Int32} {l3 : Int32} {l4 : Int32} {u : CSt}  : KV (F_X8_combine N l1 l2 l3 l4 u) u := by
  unfold F_X8_combine
  exact kv_B_X8_combine_0.tr jv_rf
theorem kv_B_X8_defer_121 {N : Nat} {u : CSt}  : KV (B_X8_defer_121 N u) u := by
  unfold B_X8_defer_121
  refine KV_bc (kv_F_X9_next.tr jv_rf) (fun _ _ => ?_)
  exact KV_some jv_rf
theorem kv_B_X8_defer_41 {N : Nat} {l1 : Int32} {l2 : Int32} {l3 : Int32} {s0 : Int32} {u : CSt}  : KV (B_X8_defer_41 N l1 l2 l3 s0 u) u := by
  unfold B_X8_defer_41
  refine KV_ok ?_
  refine KV_bc (kv_F_X6_step.tr jv_rf) (fun _ _ => ?_)
  refine KV_if ?_ ?_
  · skip
    exact kv_B_X8_defer_121.tr jv_rf
  · skip
    refine KV_wc ?_
    refine KV_wc ?_
    refine KV_wc ?_
    refine KV_wc ?_
    refine KV_pc ?_
    exact kv_B_X8_defer_121.tr (fv_xI (by first | decide | (refine ⟨?_, ?_⟩ <;> omega)) (fv_xA (by first | decide | (refine ⟨?_, ?_⟩ <;> omega)) (fv_xA (by first | decide | (refine ⟨?_, ?_⟩ <;> omega)) (fv_xA (by first | decide | (refine ⟨?_, ?_⟩ <;> omega)) (fv_xA (by first | decide | (refine ⟨?_, ?_⟩ <;> omega)) jv_rf)))))
theorem kv_B_X8_defer_0 {N : Nat} {l1 : Int32} {u : CSt}  : KV (B_X8_defer_0 N l1 u) u := by
  unfold B_X8_defer_0
  refine KV_bc (kv_F_X9_type.tr jv_rf) (fun _ _ => ?_)
  refine KV_bc (kv_F_X9_here.tr jv_rf) (fun _ _ => ?_)
  refine KV_if ?_ ?_
  · skip
    exact kv_B_X8_defer_41.tr jv_rf
  · skip
    refine KV_if ?_ ?_
    · skip
      exact kv_B_X8_defer_41.tr jv_rf
    · skip
      exact kv_B_X8_defer_41.tr jv_rf
theorem kv_F_X8_defer {N : Nat} {l1 : Int32} {u : CSt}  : KV (F_X8_defer N l1 u) u := by
  unfold F_X8_defer
  exact kv_B_X8_defer_0.tr jv_rf
theorem kv_B_X8_settle_171 {N : Nat} {R_3 : Int32 × Int32 × Int32 × CSt → Option (Int32 × CSt)} {l1 : Int32} {l2 : Int32} {l4 : Int32} {u : CSt} (h_R_3 : ∀ a, KV (R_3 a) a.2.2.2) : KV (B_X8_settle_171 N R_3 l1 l2 l4 u) u := by
  unfold B_X8_settle_171
  exact (h_R_3 _).tr jv_rf
theorem kv_B_X8_settle_84 {N : Nat} {R_3 : Int32 × Int32 × Int32 × CSt → Option (Int32 × CSt)} {l1 : Int32} {l2 : Int32} {l6 : Int32} {u : CSt} (h_R_3 : ∀ a, KV (R_3 a) a.2.2.2) : KV (B_X8_settle_84 N R_3 l1 l2 l6 u) u := by
  unfold B_X8_settle_84
  refine KV_ok ?_
  refine KV_bc (kv_F_X6_step.tr jv_rf) (fun _ _ => ?_)
  refine KV_ok ?_
  refine KV_rd (fun _ => ?_)
  refine KV_bc (kv_F_X6_land.tr jv_rf) (fun _ _ => ?_)
  exact (kv_B_X8_settle_171 h_R_3).tr jv_rf
theorem kv_B_X8_settle_3 {N : Nat} {R_3 : Int32 × Int32 × Int32 × CSt → Option (Int32 × CSt)} {l1 : Int32} {l2 : Int32} {l4 : Int32} {u : CSt} (h_R_3 : ∀ a, KV (R_3 a) a.2.2.2) : KV (B_X8_settle_3 N R_3 l1 l2 l4 u) u := by
  unfold B_X8_settle_3
  refine KV_if ?_ ?_
  · skip
    exact KV_some jv_rf
  · skip
    refine KV_rd (fun _ => ?_)
    refine KV_pb (fun _ => ?_)
    refine KV_if ?_ ?_
    · skip
      exact KV_some jv_rf
    · skip
      refine KV_pc ?_
      refine KV_rd (fun _ => ?_)
      refine KV_rd (fun _ => ?_)
      refine KV_pb (fun _ => ?_)
      refine KV_if ?_ ?_
      · skip
        exact (kv_B_X8_settle_84 h_R_3).tr (fv_xI (by first | decide | (refine ⟨?_, ?_⟩ <;> omega)) jv_rf)
      · skip
        refine KV_if ?_ ?_
        · skip
          exact (kv_B_X8_settle_84 h_R_3).tr (fv_xI (by first | decide | (refine ⟨?_, ?_⟩ <;> omega)) jv_rf)
        · skip
          refine KV_if ?_ ?_
          · skip
            refine KV_pb (fun _ => ?_)
            refine KV_rd (fun _ => ?_)
            refine KV_bc (kv_F_X8_combine.tr (fv_xI (by first | decide | (refine ⟨?_, ?_⟩ <;> omega)) jv_rf)) (fun _ _ => ?_)
            exact (kv_B_X8_settle_171 h_R_3).tr jv_rf
          · skip
            refine KV_ok ?_
            refine KV_bc (kv_F_X6_step.tr (fv_xI (by first | decide | (refine ⟨?_, ?_⟩ <;> omega)) jv_rf)) (fun _ _ => ?_)
            exact (kv_B_X8_settle_171 h_R_3).tr jv_rf
theorem kv_LP_X8_settle_3 {N : Nat}  (n : Nat) : ∀ a : Int32 × Int32 × Int32 × CSt, KV (LP_X8_settle_3 N n a) a.2.2.2 := by
  induction n with
  | zero => exact fun a r z e => by have e : (none : Option _) = some (r, z) := e; cases e
  | succ n ih =>
    intro a
    show KV (B_X8_settle_3 N (LP_X8_settle_3 N n) a.1 a.2.1 a.2.2.1 a.2.2.2) a.2.2.2
    exact kv_B_X8_settle_3 ih
theorem kv_B_X8_settle_0 {N : Nat} {l1 : Int32} {l2 : Int32} {l3 : Int32} {u : CSt}  : KV (B_X8_settle_0 N l1 l2 l3 u) u := by
  unfold B_X8_settle_0
  exact (kv_LP_X8_settle_3  _ _).tr jv_rf
theorem kv_F_X8_settle {N : Nat} {l1 : Int32} {l2 : Int32} {l3 : Int32} {u : CSt}  : KV (F_X8_settle N l1 l2 l3 u) u := by
  unfold F_X8_settle
  exact kv_B_X8_settle_0.tr jv_rf
theorem kv_B_X8_number_15 {N : Nat} {l1 : Int32} {s0 : Int32} {u : CSt}  : KV (B_X8_number_15 N l1 s0 u) u := by
  unfold B_X8_number_15
  refine KV_bt (kv_F_X9_takeNumber.tr jv_rf) (fun _ _ => ?_)
  refine KV_pc ?_
  refine KV_pc ?_
  refine KV_ok ?_
  refine KV_bc (kv_F_X6_constant.tr (fv_xI (by first | decide | (refine ⟨?_, ?_⟩ <;> omega)) (fv_xL jv_rf))) (fun _ _ => ?_)
  exact KV_some jv_rf
theorem kv_B_X8_number_0 {N : Nat} {l1 : Int32} {u : CSt}  : KV (B_X8_number_0 N l1 u) u := by
  unfold B_X8_number_0
  refine KV_bc (kv_F_X9_isWide.tr jv_rf) (fun _ _ => ?_)
  refine KV_if ?_ ?_
  · skip
    exact kv_B_X8_number_15.tr jv_rf
  · skip
    exact kv_B_X8_number_15.tr jv_rf
theorem kv_F_X8_number {N : Nat} {l1 : Int32} {u : CSt}  : KV (F_X8_number N l1 u) u := by
  unfold F_X8_number
  exact kv_B_X8_number_0.tr jv_rf
theorem kv_B_X8_bit_0 {N : Nat} {l1 : Int32} {u : CSt}  : KV (B_X8_bit_0 N l1 u) u := by
  unfold B_X8_bit_0
  refine KV_bc (kv_F_X9_next.tr jv_rf) (fun _ _ => ?_)
  refine KV_rd (fun _ => ?_)
  refine KV_bt (kv_F_X9_takeBounded.tr jv_rf) (fun _ _ => ?_)
  exact KV_some jv_rf
theorem kv_F_X8_bit {N : Nat} {l1 : Int32} {u : CSt}  : KV (F_X8_bit N l1 u) u := by
  unfold F_X8_bit
  exact kv_B_X8_bit_0.tr jv_rf
theorem kv_B_X8_get_36 {N : Nat} {l1 : Nat} {l2 : Int32} {l3 : Int32} {l4 : Int32} {u : CSt}  : KV (B_X8_get_36 N l1 l2 l3 l4 u) u := by
  unfold B_X8_get_36
  refine KV_ok ?_
  refine KV_bc (kv_F_X6_step.tr jv_rf) (fun _ _ => ?_)
  exact KV_some jv_rf
theorem kv_B_X8_get_34 {N : Nat} {l1 : Nat} {l2 : Int32} {l3 : Int32} {s0 : Int32} {u : CSt}  : KV (B_X8_get_34 N l1 l2 l3 s0 u) u := by
  unfold B_X8_get_34
  exact kv_B_X8_get_36.tr jv_rf
theorem kv_B_X8_get_12 {N : Nat} {l1 : Nat} {l2 : Int32} {l3 : Int32} {s0 : Int32} {u : CSt}  : KV (B_X8_get_12 N l1 l2 l3 s0 u) u := by
  unfold B_X8_get_12
  refine KV_bc (kv_F_X4_isPlaced.tr jv_rf) (fun _ _ => ?_)
  refine KV_if ?_ ?_
  · skip
    exact kv_B_X8_get_36.tr jv_rf
  · skip
    refine KV_bc (kv_F_X4_isInput.tr jv_rf) (fun _ _ => ?_)
    refine KV_if ?_ ?_
    · skip
      exact kv_B_X8_get_34.tr jv_rf
    · skip
      exact kv_B_X8_get_34.tr jv_rf
theorem kv_B_X8_get_0 {N : Nat} {l1 : Nat} {l2 : Int32} {l3 : Int32} {u : CSt}  : KV (B_X8_get_0 N l1 l2 l3 u) u := by
  unfold B_X8_get_0
  refine KV_bc (kv_F_X4_isLocal.tr jv_rf) (fun _ _ => ?_)
  refine KV_if ?_ ?_
  · skip
    exact kv_B_X8_get_12.tr jv_rf
  · skip
    exact kv_B_X8_get_12.tr jv_rf
theorem kv_F_X8_get {N : Nat} {l1 : Nat} {l2 : Int32} {l3 : Int32} {u : CSt}  : KV (F_X8_get N l1 l2 l3 u) u := by
  unfold F_X8_get
  exact kv_B_X8_get_0.tr jv_rf
theorem kv_B_X8_set_26 {N : Nat} {l1 : Nat} {l2 : Int32} {s0 : Int32} {u : CSt}  : KV (B_X8_set_26 N l1 l2 s0 u) u := by
  unfold B_X8_set_26
  refine KV_ok ?_
  refine KV_bc (kv_F_X6_step.tr jv_rf) (fun _ _ => ?_)
  exact KV_some jv_rf
theorem kv_B_X8_set_0 {N : Nat} {l1 : Nat} {l2 : Int32} {u : CSt}  : KV (B_X8_set_0 N l1 l2 u) u := by
  unfold B_X8_set_0
  refine KV_bc (kv_F_X4_isLocal.tr jv_rf) (fun _ _ => ?_)
  refine KV_if ?_ ?_
  · skip
    refine KV_bc (kv_F_X4_isPlaced.tr jv_rf) (fun _ _ => ?_)
    refine KV_if ?_ ?_
    · skip
      exact kv_B_X8_set_26.tr jv_rf
    · skip
      exact kv_B_X8_set_26.tr jv_rf
  · skip
    exact kv_B_X8_set_26.tr jv_rf
theorem kv_F_X8_set {N : Nat} {l1 : Nat} {l2 : Int32} {u : CSt}  : KV (F_X8_set N l1 l2 u) u := by
  unfold F_X8_set
  exact kv_B_X8_set_0.tr jv_rf
theorem kv_B_X8_expression_0 {N : Nat} {ro : Nat → Nat → Int32 → Int32 → CSt → Option (Sum Nat Int32 × CSt)} {u : CSt} (h_ro : ∀ q z a b u, KV (ro q z a b u) u) : KV (B_X8_expression_0 N ro u) u := by
  unfold B_X8_expression_0
  refine KV_bt ((h_ro _ _ _ _ _).tr jv_rf) (fun _ _ => ?_)
  refine KV_bc (kv_F_X9_is.tr jv_rf) (fun _ _ => ?_)
  refine KV_if ?_ ?_
  · skip
    exact KV_some jv_rf
  · skip
    refine KV_bc (kv_F_X9_here.tr jv_rf) (fun _ _ => ?_)
    refine KV_ok ?_
    refine KV_bc (kv_F_X6_step.tr jv_rf) (fun _ _ => ?_)
    refine KV_bc (kv_F_X9_next.tr jv_rf) (fun _ _ => ?_)
    refine KV_bt ((h_ro _ _ _ _ _).tr jv_rf) (fun _ _ => ?_)
    refine KV_ok ?_
    refine KV_bc (kv_F_X6_step.tr jv_rf) (fun _ _ => ?_)
    refine KV_ok ?_
    refine KV_bc (kv_F_X6_land.tr jv_rf) (fun _ _ => ?_)
    refine KV_bc (kv_F_X9_next.tr jv_rf) (fun _ _ => ?_)
    refine KV_bt ((h_ro _ _ _ _ _).tr jv_rf) (fun _ _ => ?_)
    refine KV_ok ?_
    refine KV_bc (kv_F_X6_land.tr jv_rf) (fun _ _ => ?_)
    refine KV_pc ?_
    exact KV_some (fv_xI (by first | decide | (refine ⟨?_, ?_⟩ <;> omega)) jv_rf)
theorem kv_F_X8_expression {N : Nat} {ro : Nat → Nat → Int32 → Int32 → CSt → Option (Sum Nat Int32 × CSt)} {u : CSt} (h_ro : ∀ q z a b u, KV (ro q z a b u) u) : KV (F_X8_expression N ro u) u := by
  unfold F_X8_expression
  exact (kv_B_X8_expression_0 h_ro).tr jv_rf
theorem kv_B_X8_operators_76 {N : Nat} {ro : Nat → Nat → Int32 → Int32 → CSt → Option (Sum Nat Int32 × CSt)} {l1 : Int32} {l2 : Int32} {u : CSt} (h_ro : ∀ q z a b u, KV (ro q z a b u) u) : KV (B_X8_operators_76 N ro l1 l2 u) u := by
  unfold B_X8_operators_76
  refine KV_bc (kv_F_X8_settle.tr jv_rf) (fun _ _ => ?_)
  exact KV_some jv_rf
theorem kv_B_X8_operators_24 {N : Nat} {ro : Nat → Nat → Int32 → Int32 → CSt → Option (Sum Nat Int32 × CSt)} {R_24 : Int32 × Int32 × Int32 × Int32 × CSt → Option ((Sum Nat Int32) × CSt)} {l1 : Int32} {l2 : Int32} {l3 : Int32} {l4 : Int32} {u : CSt} (h_ro : ∀ q z a b u, KV (ro q z a b u) u) (h_R_24 : ∀ a, KV (R_24 a) a.2.2.2.2) : KV (B_X8_operators_24 N ro R_24 l1 l2 l3 l4 u) u := by
  unfold B_X8_operators_24
  refine KV_if ?_ ?_
  · skip
    exact (kv_B_X8_operators_76 h_ro).tr jv_rf
  · skip
    refine KV_if ?_ ?_
    · skip
      exact (kv_B_X8_operators_76 h_ro).tr jv_rf
    · skip
      refine KV_bc (kv_F_X8_settle.tr jv_rf) (fun _ _ => ?_)
      refine KV_bc (kv_F_X8_defer.tr jv_rf) (fun _ _ => ?_)
      refine KV_bt ((h_ro _ _ _ _ _).tr jv_rf) (fun _ _ => ?_)
      refine KV_pc ?_
      refine KV_bc (kv_F_X9_type.tr (fv_xI (by first | decide | (refine ⟨?_, ?_⟩ <;> omega)) jv_rf)) (fun _ _ => ?_)
      refine KV_pb (fun _ => ?_)
      exact (h_R_24 _).tr jv_rf
theorem kv_LP_X8_operators_24 {N : Nat} {ro : Nat → Nat → Int32 → Int32 → CSt → Option (Sum Nat Int32 × CSt)} (h_ro : ∀ q z a b u, KV (ro q z a b u) u) (n : Nat) : ∀ a : Int32 × Int32 × Int32 × Int32 × CSt, KV (LP_X8_operators_24 N ro n a) a.2.2.2.2 := by
  induction n with
  | zero => exact fun a r z e => by have e : (none : Option _) = some (r, z) := e; cases e
  | succ n ih =>
    intro a
    show KV (B_X8_operators_24 N ro (LP_X8_operators_24 N ro n) a.1 a.2.1 a.2.2.1 a.2.2.2.1 a.2.2.2.2) a.2.2.2.2
    exact kv_B_X8_operators_24 h_ro ih
theorem kv_B_X8_operators_0 {N : Nat} {ro : Nat → Nat → Int32 → Int32 → CSt → Option (Sum Nat Int32 × CSt)} {u : CSt} (h_ro : ∀ q z a b u, KV (ro q z a b u) u) : KV (B_X8_operators_0 N ro u) u := by
  unfold B_X8_operators_0
  refine KV_bt ((h_ro _ _ _ _ _).tr jv_rf) (fun _ _ => ?_)
  refine KV_bc (kv_F_X9_type.tr jv_rf) (fun _ _ => ?_)
  refine KV_pb (fun _ => ?_)
  exact (kv_LP_X8_operators_24 h_ro _ _).tr jv_rf
theorem kv_F_X8_operators {N : Nat} {ro : Nat → Nat → Int32 → Int32 → CSt → Option (Sum Nat Int32 × CSt)} {u : CSt} (h_ro : ∀ q z a b u, KV (ro q z a b u) u) : KV (F_X8_operators N ro u) u := by
  unfold F_X8_operators
  exact (kv_B_X8_operators_0 h_ro).tr jv_rf
theorem kv_B_X8_operand_0 {N : Nat} {ro : Nat → Nat → Int32 → Int32 → CSt → Option (Sum Nat Int32 × CSt)} {u : CSt} (h_ro : ∀ q z a b u, KV (ro q z a b u) u) : KV (B_X8_operand_0 N ro u) u := by
  unfold B_X8_operand_0
  refine KV_bc (kv_F_X9_here.tr jv_rf) (fun _ _ => ?_)
  refine KV_bc (kv_F_X9_type.tr jv_rf) (fun _ _ => ?_)
  refine KV_if ?_ ?_
  · skip
    refine KV_ok ?_
    refine KV_bc (kv_F_X6_step.tr jv_rf) (fun _ _ => ?_)
    refine KV_bc (kv_F_X9_next.tr jv_rf) (fun _ _ => ?_)
    refine KV_pc ?_
    exact KV_some (fv_xI (by first | decide | (refine ⟨?_, ?_⟩ <;> omega)) jv_rf)
  · skip
    refine KV_if ?_ ?_
    · skip
      refine KV_bt ((h_ro _ _ _ _ _).tr jv_rf) (fun _ _ => ?_)
      exact KV_some jv_rf
    · skip
      refine KV_if ?_ ?_
      · skip
        refine KV_bt ((h_ro _ _ _ _ _).tr jv_rf) (fun _ _ => ?_)
        exact KV_some jv_rf
      · skip
        refine KV_if ?_ ?_
        · skip
          refine KV_bt ((h_ro _ _ _ _ _).tr jv_rf) (fun _ _ => ?_)
          exact KV_some jv_rf
        · skip
          refine KV_if ?_ ?_
          · skip
            refine KV_bt ((h_ro _ _ _ _ _).tr jv_rf) (fun _ _ => ?_)
            exact KV_some jv_rf
          · skip
            refine KV_if ?_ ?_
            · skip
              refine KV_bt (kv_F_X8_number.tr jv_rf) (fun _ _ => ?_)
              exact KV_some jv_rf
            · skip
              refine KV_if ?_ ?_
              · skip
                refine KV_bt (kv_F_X8_number.tr jv_rf) (fun _ _ => ?_)
                exact KV_some jv_rf
              · skip
                refine KV_bt ((h_ro _ _ _ _ _).tr jv_rf) (fun _ _ => ?_)
                exact KV_some jv_rf
theorem kv_F_X8_operand {N : Nat} {ro : Nat → Nat → Int32 → Int32 → CSt → Option (Sum Nat Int32 × CSt)} {u : CSt} (h_ro : ∀ q z a b u, KV (ro q z a b u) u) : KV (F_X8_operand N ro u) u := by
  unfold F_X8_operand
  exact (kv_B_X8_operand_0 h_ro).tr jv_rf
theorem kv_B_X8_signed_146 {N : Nat} {ro : Nat → Nat → Int32 → Int32 → CSt → Option (Sum Nat Int32 × CSt)} {l2 : Int32} {l4 : Int32} {s1 : Int32} {u : CSt} (h_ro : ∀ q z a b u, KV (ro q z a b u) u) : KV (B_X8_signed_146 N ro l2 l4 s1 u) u := by
  unfold B_X8_signed_146
  refine KV_pc ?_
  refine KV_if ?_ ?_
  · skip
    exact KV_some (fv_xL jv_rf)
  · skip
    exact KV_some (fv_xL jv_rf)
theorem kv_B_X8_signed_131 {N : Nat} {ro : Nat → Nat → Int32 → Int32 → CSt → Option (Sum Nat Int32 × CSt)} {l2 : Int32} {l4 : Int32} {s1 : Int32} {u : CSt} (h_ro : ∀ q z a b u, KV (ro q z a b u) u) : KV (B_X8_signed_131 N ro l2 l4 s1 u) u := by
  unfold B_X8_signed_131
  refine KV_zr ?_
  refine KV_pc ?_
  refine KV_if ?_ ?_
  · skip
    exact (kv_B_X8_signed_146 h_ro).tr (fv_xI (by first | decide | (refine ⟨?_, ?_⟩ <;> omega)) jv_rf)
  · skip
    exact (kv_B_X8_signed_146 h_ro).tr (fv_xI (by first | decide | (refine ⟨?_, ?_⟩ <;> omega)) jv_rf)
theorem kv_B_X8_signed_130 {N : Nat} {ro : Nat → Nat → Int32 → Int32 → CSt → Option (Sum Nat Int32 × CSt)} {l2 : Int32} {l4 : Int32} {u : CSt} (h_ro : ∀ q z a b u, KV (ro q z a b u) u) : KV (B_X8_signed_130 N ro l2 l4 u) u := by
  unfold B_X8_signed_130
  exact (kv_B_X8_signed_131 h_ro).tr jv_rf
theorem kv_B_X8_signed_110 {N : Nat} {ro : Nat → Nat → Int32 → Int32 → CSt → Option (Sum Nat Int32 × CSt)} {l1 : Int32} {l2 : Int32} {l3 : Int32} {l4 : Int32} {s0 : Nat} {s1 : Int32} {s2 : Int32} {s3 : Int32} {u : CSt} (h_ro : ∀ q z a b u, KV (ro q z a b u) u) : KV (B_X8_signed_110 N ro l1 l2 l3 l4 s0 s1 s2 s3 u) u := by
  unfold B_X8_signed_110
  refine KV_bc (kv_F_X6_step.tr jv_rf) (fun _ _ => ?_)
  refine KV_if ?_ ?_
  · skip
    refine KV_if ?_ ?_
    · skip
      exact (kv_B_X8_signed_130 h_ro).tr jv_rf
    · skip
      exact (kv_B_X8_signed_131 h_ro).tr jv_rf
  · skip
    exact (kv_B_X8_signed_130 h_ro).tr jv_rf
theorem kv_B_X8_signed_89 {N : Nat} {ro : Nat → Nat → Int32 → Int32 → CSt → Option (Sum Nat Int32 × CSt)} {l1 : Int32} {l2 : Int32} {l3 : Int32} {l4 : Int32} {s0 : Int32} {u : CSt} (h_ro : ∀ q z a b u, KV (ro q z a b u) u) : KV (B_X8_signed_89 N ro l1 l2 l3 l4 s0 u) u := by
  unfold B_X8_signed_89
  refine KV_ok ?_
  refine KV_if ?_ ?_
  · skip
    exact (kv_B_X8_signed_110 h_ro).tr jv_rf
  · skip
    exact (kv_B_X8_signed_110 h_ro).tr jv_rf
theorem kv_B_X8_signed_54 {N : Nat} {ro : Nat → Nat → Int32 → Int32 → CSt → Option (Sum Nat Int32 × CSt)} {l1 : Int32} {l2 : Int32} {s0 : Int32} {u : CSt} (h_ro : ∀ q z a b u, KV (ro q z a b u) u) : KV (B_X8_signed_54 N ro l1 l2 s0 u) u := by
  unfold B_X8_signed_54
  refine KV_bt ((h_ro _ _ _ _ _).tr jv_rf) (fun _ _ => ?_)
  refine KV_if ?_ ?_
  · skip
    exact (kv_B_X8_signed_89 h_ro).tr jv_rf
  · skip
    refine KV_if ?_ ?_
    · skip
      exact (kv_B_X8_signed_89 h_ro).tr jv_rf
    · skip
      exact (kv_B_X8_signed_89 h_ro).tr jv_rf
theorem kv_B_X8_signed_49 {N : Nat} {ro : Nat → Nat → Int32 → Int32 → CSt → Option (Sum Nat Int32 × CSt)} {l1 : Int32} {l2 : Int32} {u : CSt} (h_ro : ∀ q z a b u, KV (ro q z a b u) u) : KV (B_X8_signed_49 N ro l1 l2 u) u := by
  unfold B_X8_signed_49
  exact (kv_B_X8_signed_54 h_ro).tr jv_rf
theorem kv_B_X8_signed_0 {N : Nat} {ro : Nat → Nat → Int32 → Int32 → CSt → Option (Sum Nat Int32 × CSt)} {l1 : Int32} {u : CSt} (h_ro : ∀ q z a b u, KV (ro q z a b u) u) : KV (B_X8_signed_0 N ro l1 u) u := by
  unfold B_X8_signed_0
  refine KV_bc (kv_F_X9_type.tr jv_rf) (fun _ _ => ?_)
  refine KV_ok ?_
  refine KV_bc (kv_F_X6_cost.tr jv_rf) (fun _ _ => ?_)
  refine KV_bc (kv_F_X9_next.tr jv_rf) (fun _ _ => ?_)
  refine KV_bc (kv_F_X9_is.tr jv_rf) (fun _ _ => ?_)
  refine KV_if ?_ ?_
  · skip
    refine KV_bc (kv_F_X9_is.tr jv_rf) (fun _ _ => ?_)
    refine KV_if ?_ ?_
    · skip
      exact (kv_B_X8_signed_54 h_ro).tr jv_rf
    · skip
      exact (kv_B_X8_signed_49 h_ro).tr jv_rf
  · skip
    exact (kv_B_X8_signed_49 h_ro).tr jv_rf
theorem kv_F_X8_signed {N : Nat} {ro : Nat → Nat → Int32 → Int32 → CSt → Option (Sum Nat Int32 × CSt)} {l1 : Int32} {u : CSt} (h_ro : ∀ q z a b u, KV (ro q z a b u) u) : KV (F_X8_signed N ro l1 u) u := by
  unfold F_X8_signed
  exact (kv_B_X8_signed_0 h_ro).tr jv_rf
theorem kv_B_X8_bracket_0 {N : Nat} {ro : Nat → Nat → Int32 → Int32 → CSt → Option (Sum Nat Int32 × CSt)} {l1 : Int32} {u : CSt} (h_ro : ∀ q z a b u, KV (ro q z a b u) u) : KV (B_X8_bracket_0 N ro l1 u) u := by
  unfold B_X8_bracket_0
  refine KV_bc (kv_F_X9_next.tr jv_rf) (fun _ _ => ?_)
  refine KV_bc (kv_F_X9_isKindWord.tr jv_rf) (fun _ _ => ?_)
  refine KV_if ?_ ?_
  · skip
    refine KV_bt ((h_ro _ _ _ _ _).tr jv_rf) (fun _ _ => ?_)
    refine KV_bc (kv_F_X9_next.tr jv_rf) (fun _ _ => ?_)
    exact KV_some jv_rf
  · skip
    refine KV_bc (kv_F_X9_takeKind.tr jv_rf) (fun _ _ => ?_)
    refine KV_bc (kv_F_X9_next.tr jv_rf) (fun _ _ => ?_)
    refine KV_ok ?_
    refine KV_bc (kv_F_X6_cost.tr jv_rf) (fun _ _ => ?_)
    refine KV_bt ((h_ro _ _ _ _ _).tr jv_rf) (fun _ _ => ?_)
    refine KV_ok ?_
    refine KV_bc (kv_F_X6_step.tr jv_rf) (fun _ _ => ?_)
    refine KV_pc ?_
    exact KV_some (fv_xI (by first | decide | (refine ⟨?_, ?_⟩ <;> omega)) jv_rf)
theorem kv_F_X8_bracket {N : Nat} {ro : Nat → Nat → Int32 → Int32 → CSt → Option (Sum Nat Int32 × CSt)} {l1 : Int32} {u : CSt} (h_ro : ∀ q z a b u, KV (ro q z a b u) u) : KV (F_X8_bracket N ro l1 u) u := by
  unfold F_X8_bracket
  exact (kv_B_X8_bracket_0 h_ro).tr jv_rf
theorem kv_B_X8_named_58 {N : Nat} {ro : Nat → Nat → Int32 → Int32 → CSt → Option (Sum Nat Int32 × CSt)} {l1 : Int32} {u : CSt} (h_ro : ∀ q z a b u, KV (ro q z a b u) u) : KV (B_X8_named_58 N ro l1 u) u := by
  unfold B_X8_named_58
  refine KV_bt ((h_ro _ _ _ _ _).tr jv_rf) (fun _ _ => ?_)
  refine KV_pc ?_
  exact KV_some (fv_xI (by first | decide | (refine ⟨?_, ?_⟩ <;> omega)) jv_rf)
theorem kv_B_X8_named_0 {N : Nat} {ro : Nat → Nat → Int32 → Int32 → CSt → Option (Sum Nat Int32 × CSt)} {l1 : Int32} {u : CSt} (h_ro : ∀ q z a b u, KV (ro q z a b u) u) : KV (B_X8_named_0 N ro l1 u) u := by
  unfold B_X8_named_0
  refine KV_bc (kv_F_X9_typeAhead.tr jv_rf) (fun _ _ => ?_)
  refine KV_if ?_ ?_
  · skip
    refine KV_bt ((h_ro _ _ _ _ _).tr jv_rf) (fun _ _ => ?_)
    refine KV_pc ?_
    exact KV_some (fv_xI (by first | decide | (refine ⟨?_, ?_⟩ <;> omega)) jv_rf)
  · skip
    refine KV_bc (kv_F_X9_typeAhead.tr jv_rf) (fun _ _ => ?_)
    refine KV_if ?_ ?_
    · skip
      refine KV_bc (kv_F_X9_typeAhead.tr jv_rf) (fun _ _ => ?_)
      refine KV_if ?_ ?_
      · skip
        refine KV_bt ((h_ro _ _ _ _ _).tr jv_rf) (fun _ _ => ?_)
        refine KV_pc ?_
        exact KV_some (fv_xI (by first | decide | (refine ⟨?_, ?_⟩ <;> omega)) jv_rf)
      · skip
        exact (kv_B_X8_named_58 h_ro).tr jv_rf
    · skip
      exact (kv_B_X8_named_58 h_ro).tr jv_rf
theorem kv_F_X8_named {N : Nat} {ro : Nat → Nat → Int32 → Int32 → CSt → Option (Sum Nat Int32 × CSt)} {l1 : Int32} {u : CSt} (h_ro : ∀ q z a b u, KV (ro q z a b u) u) : KV (F_X8_named N ro l1 u) u := by
  unfold F_X8_named
  exact (kv_B_X8_named_0 h_ro).tr jv_rf
theorem kv_B_X8_ofPlace_58 {N : Nat} {ro : Nat → Nat → Int32 → Int32 → CSt → Option (Sum Nat Int32 × CSt)} {l1 : Int32} {l2 : Nat} {u : CSt} (h_ro : ∀ q z a b u, KV (ro q z a b u) u) : KV (B_X8_ofPlace_58 N ro l1 l2 u) u := by
  unfold B_X8_ofPlace_58
  refine KV_bc (kv_F_X9_is.tr jv_rf) (fun _ _ => ?_)
  refine KV_if ?_ ?_
  · skip
    exact KV_some jv_rf
  · skip
    refine KV_ok ?_
    refine KV_bt (kv_F_X8_bit.tr jv_rf) (fun _ _ => ?_)
    refine KV_bc (kv_F_X6_step.tr jv_rf) (fun _ _ => ?_)
    exact KV_some jv_rf
theorem kv_B_X8_ofPlace_0 {N : Nat} {ro : Nat → Nat → Int32 → Int32 → CSt → Option (Sum Nat Int32 × CSt)} {l1 : Int32} {u : CSt} (h_ro : ∀ q z a b u, KV (ro q z a b u) u) : KV (B_X8_ofPlace_0 N ro l1 u) u := by
  unfold B_X8_ofPlace_0
  refine KV_bt (kv_F_X8_placeName.tr jv_rf) (fun _ _ => ?_)
  refine KV_ok ?_
  refine KV_bc (kv_F_X9_next.tr jv_rf) (fun _ _ => ?_)
  refine KV_if ?_ ?_
  · skip
    refine KV_bc (kv_F_X8_get.tr jv_rf) (fun _ _ => ?_)
    exact (kv_B_X8_ofPlace_58 h_ro).tr jv_rf
  · skip
    refine KV_ok ?_
    refine KV_bc (kv_F_X6_cost.tr jv_rf) (fun _ _ => ?_)
    refine KV_bt ((h_ro _ _ _ _ _).tr jv_rf) (fun _ _ => ?_)
    refine KV_ok ?_
    refine KV_bc (kv_F_X6_step.tr jv_rf) (fun _ _ => ?_)
    exact (kv_B_X8_ofPlace_58 h_ro).tr jv_rf
theorem kv_F_X8_ofPlace {N : Nat} {ro : Nat → Nat → Int32 → Int32 → CSt → Option (Sum Nat Int32 × CSt)} {l1 : Int32} {u : CSt} (h_ro : ∀ q z a b u, KV (ro q z a b u) u) : KV (F_X8_ofPlace N ro l1 u) u := by
  unfold F_X8_ofPlace
  exact (kv_B_X8_ofPlace_0 h_ro).tr jv_rf
theorem kv_B_X8_ofInstance_132 {N : Nat} {ro : Nat → Nat → Int32 → Int32 → CSt → Option (Sum Nat Int32 × CSt)} {l2 : Nat} {l3 : Int32} {l4 : Nat} {u : CSt} (h_ro : ∀ q z a b u, KV (ro q z a b u) u) : KV (B_X8_ofInstance_132 N ro l2 l3 l4 u) u := by
  unfold B_X8_ofInstance_132
  refine KV_bc (kv_F_X9_next.tr jv_rf) (fun _ _ => ?_)
  refine KV_if ?_ ?_
  · skip
    refine KV_ok ?_
    refine KV_bc (kv_F_X6_step.tr jv_rf) (fun _ _ => ?_)
    exact KV_some jv_rf
  · skip
    refine KV_ok ?_
    refine KV_bc (kv_F_X6_cost.tr jv_rf) (fun _ _ => ?_)
    refine KV_bt ((h_ro _ _ _ _ _).tr jv_rf) (fun _ _ => ?_)
    refine KV_ok ?_
    refine KV_bc (kv_F_X6_step.tr jv_rf) (fun _ _ => ?_)
    refine KV_ok ?_
    refine KV_bc (kv_F_X6_step.tr jv_rf) (fun _ _ => ?_)
    exact KV_some jv_rf
theorem kv_B_X8_ofInstance_120 {N : Nat} {ro : Nat → Nat → Int32 → Int32 → CSt → Option (Sum Nat Int32 × CSt)} {l2 : Nat} {l3 : Int32} {l4 : Nat} {s0 : Int32} {s1 : Int32} {u : CSt} (h_ro : ∀ q z a b u, KV (ro q z a b u) u) : KV (B_X8_ofInstance_120 N ro l2 l3 l4 s0 s1 u) u := by
  unfold B_X8_ofInstance_120
  refine KV_if ?_ ?_
  · skip
    exact (kv_B_X8_ofInstance_132 h_ro).tr jv_rf
  · skip
    refine KV_bt (kv_F_X9_refuse.tr jv_rf) (fun _ _ => ?_)
    exact (kv_B_X8_ofInstance_132 h_ro).tr jv_rf
theorem kv_B_X8_ofInstance_97 {N : Nat} {ro : Nat → Nat → Int32 → Int32 → CSt → Option (Sum Nat Int32 × CSt)} {l2 : Nat} {l3 : Int32} {l4 : Nat} {u : CSt} (h_ro : ∀ q z a b u, KV (ro q z a b u) u) : KV (B_X8_ofInstance_97 N ro l2 l3 l4 u) u := by
  unfold B_X8_ofInstance_97
  refine KV_bc (kv_F_X9_typeAhead.tr jv_rf) (fun _ _ => ?_)
  refine KV_if ?_ ?_
  · skip
    exact (kv_B_X8_ofInstance_120 h_ro).tr jv_rf
  · skip
    exact (kv_B_X8_ofInstance_120 h_ro).tr jv_rf
theorem kv_B_X8_ofInstance_22 {N : Nat} {ro : Nat → Nat → Int32 → Int32 → CSt → Option (Sum Nat Int32 × CSt)} {l2 : Nat} {u : CSt} (h_ro : ∀ q z a b u, KV (ro q z a b u) u) : KV (B_X8_ofInstance_22 N ro l2 u) u := by
  unfold B_X8_ofInstance_22
  refine KV_bc (kv_F_X9_next.tr jv_rf) (fun _ _ => ?_)
  refine KV_bc (kv_F_X9_next.tr jv_rf) (fun _ _ => ?_)
  refine KV_bc (kv_F_X9_here.tr jv_rf) (fun _ _ => ?_)
  refine KV_ok ?_
  refine KV_bc (kv_F_X6_name.tr jv_rf) (fun _ _ => ?_)
  refine KV_ok ?_
  refine KV_bc (kv_F_X9_head.tr jv_rf) (fun _ _ => ?_)
  refine KV_bc (kv_F_X9_tail.tr jv_rf) (fun _ _ => ?_)
  refine KV_bc (kv_F_X6_localCalled.tr jv_rf) (fun _ _ => ?_)
  refine KV_ok ?_
  refine KV_if ?_ ?_
  · skip
    refine KV_bt (kv_F_X9_refuse.tr jv_rf) (fun _ _ => ?_)
    exact (kv_B_X8_ofInstance_97 h_ro).tr jv_rf
  · skip
    exact (kv_B_X8_ofInstance_97 h_ro).tr jv_rf
theorem kv_B_X8_ofInstance_0 {N : Nat} {ro : Nat → Nat → Int32 → Int32 → CSt → Option (Sum Nat Int32 × CSt)} {l1 : Int32} {u : CSt} (h_ro : ∀ q z a b u, KV (ro q z a b u) u) : KV (B_X8_ofInstance_0 N ro l1 u) u := by
  unfold B_X8_ofInstance_0
  refine KV_bc (kv_F_X8_known.tr jv_rf) (fun _ _ => ?_)
  refine KV_ok ?_
  refine KV_if ?_ ?_
  · skip
    exact (kv_B_X8_ofInstance_22 h_ro).tr jv_rf
  · skip
    refine KV_bt (kv_F_X9_refuse.tr jv_rf) (fun _ _ => ?_)
    exact (kv_B_X8_ofInstance_22 h_ro).tr jv_rf
theorem kv_F_X8_ofInstance {N : Nat} {ro : Nat → Nat → Int32 → Int32 → CSt → Option (Sum Nat Int32 × CSt)} {l1 : Int32} {u : CSt} (h_ro : ∀ q z a b u, KV (ro q z a b u) u) : KV (F_X8_ofInstance N ro l1 u) u := by
  unfold F_X8_ofInstance
  exact (kv_B_X8_ofInstance_0 h_ro).tr jv_rf
theorem kv_B_X8_called_31 {N : Nat} {ro : Nat → Nat → Int32 → Int32 → CSt → Option (Sum Nat Int32 × CSt)} {l1 : Int32} {l2 : Nat} {u : CSt} (h_ro : ∀ q z a b u, KV (ro q z a b u) u) : KV (B_X8_called_31 N ro l1 l2 u) u := by
  unfold B_X8_called_31
  refine KV_ok ?_
  refine KV_bc (kv_F_X6_cost.tr jv_rf) (fun _ _ => ?_)
  refine KV_if ?_ ?_
  · skip
    refine KV_bt ((h_ro _ _ _ _ _).tr jv_rf) (fun _ _ => ?_)
    exact KV_some jv_rf
  · skip
    refine KV_bt ((h_ro _ _ _ _ _).tr jv_rf) (fun _ _ => ?_)
    refine KV_ok ?_
    refine KV_bc (kv_F_X6_step.tr jv_rf) (fun _ _ => ?_)
    exact KV_some jv_rf
theorem kv_B_X8_called_0 {N : Nat} {ro : Nat → Nat → Int32 → Int32 → CSt → Option (Sum Nat Int32 × CSt)} {l1 : Int32} {u : CSt} (h_ro : ∀ q z a b u, KV (ro q z a b u) u) : KV (B_X8_called_0 N ro l1 u) u := by
  unfold B_X8_called_0
  refine KV_bc (kv_F_X8_known.tr jv_rf) (fun _ _ => ?_)
  refine KV_ok ?_
  refine KV_if ?_ ?_
  · skip
    exact (kv_B_X8_called_31 h_ro).tr jv_rf
  · skip
    refine KV_if ?_ ?_
    · skip
      exact (kv_B_X8_called_31 h_ro).tr jv_rf
    · skip
      refine KV_bt (kv_F_X9_refuse.tr jv_rf) (fun _ _ => ?_)
      exact (kv_B_X8_called_31 h_ro).tr jv_rf
theorem kv_F_X8_called {N : Nat} {ro : Nat → Nat → Int32 → Int32 → CSt → Option (Sum Nat Int32 × CSt)} {l1 : Int32} {u : CSt} (h_ro : ∀ q z a b u, KV (ro q z a b u) u) : KV (F_X8_called N ro l1 u) u := by
  unfold F_X8_called
  exact (kv_B_X8_called_0 h_ro).tr jv_rf
theorem kv_B_X8_builtIn_71 {N : Nat} {ro : Nat → Nat → Int32 → Int32 → CSt → Option (Sum Nat Int32 × CSt)} {R_22 : Nat × Int32 × Int32 × Int32 × Int32 × CSt → Option ((Sum Nat Int32) × CSt)} {l1 : Nat} {l2 : Int32} {l4 : Int32} {l5 : Int32} {l6 : Int32} {s0 : Int32} {u : CSt} (h_ro : ∀ q z a b u, KV (ro q z a b u) u) (h_R_22 : ∀ a, KV (R_22 a) a.2.2.2.2.2) : KV (B_X8_builtIn_71 N ro R_22 l1 l2 l4 l5 l6 s0 u) u := by
  unfold B_X8_builtIn_71
  exact (h_R_22 _).tr jv_rf
theorem kv_B_X8_builtIn_54 {N : Nat} {ro : Nat → Nat → Int32 → Int32 → CSt → Option (Sum Nat Int32 × CSt)} {R_22 : Nat × Int32 × Int32 × Int32 × Int32 × CSt → Option ((Sum Nat Int32) × CSt)} {l1 : Nat} {l2 : Int32} {l3 : Int32} {l4 : Int32} {l5 : Int32} {u : CSt} (h_ro : ∀ q z a b u, KV (ro q z a b u) u) (h_R_22 : ∀ a, KV (R_22 a) a.2.2.2.2.2) : KV (B_X8_builtIn_54 N ro R_22 l1 l2 l3 l4 l5 u) u := by
  unfold B_X8_builtIn_54
  refine KV_bt ((h_ro _ _ _ _ _).tr jv_rf) (fun _ _ => ?_)
  refine KV_if ?_ ?_
  · skip
    exact (kv_B_X8_builtIn_71 h_ro h_R_22).tr jv_rf
  · skip
    exact (kv_B_X8_builtIn_71 h_ro h_R_22).tr jv_rf
theorem kv_B_X8_builtIn_215 {N : Nat} {ro : Nat → Nat → Int32 → Int32 → CSt → Option (Sum Nat Int32 × CSt)} {u : CSt} (h_ro : ∀ q z a b u, KV (ro q z a b u) u) : KV (B_X8_builtIn_215 N ro u) u := by
  unfold B_X8_builtIn_215
  exact KV_some jv_rf
theorem kv_B_X8_builtIn_192 {N : Nat} {ro : Nat → Nat → Int32 → Int32 → CSt → Option (Sum Nat Int32 × CSt)} {l1 : Nat} {l2 : Int32} {l7 : Int32} {s0 : Nat} {s1 : Int32} {s2 : Int32} {s3 : Int32} {u : CSt} (h_ro : ∀ q z a b u, KV (ro q z a b u) u) : KV (B_X8_builtIn_192 N ro l1 l2 l7 s0 s1 s2 s3 u) u := by
  unfold B_X8_builtIn_192
  refine KV_bc (kv_F_X6_step.tr jv_rf) (fun _ _ => ?_)
  refine KV_if ?_ ?_
  · skip
    exact (kv_B_X8_builtIn_215 h_ro).tr jv_rf
  · skip
    refine KV_if ?_ ?_
    · skip
      exact (kv_B_X8_builtIn_215 h_ro).tr jv_rf
    · skip
      exact KV_some jv_rf
theorem kv_B_X8_builtIn_169 {N : Nat} {ro : Nat → Nat → Int32 → Int32 → CSt → Option (Sum Nat Int32 × CSt)} {l1 : Nat} {l2 : Int32} {l7 : Int32} {s0 : Int32} {u : CSt} (h_ro : ∀ q z a b u, KV (ro q z a b u) u) : KV (B_X8_builtIn_169 N ro l1 l2 l7 s0 u) u := by
  unfold B_X8_builtIn_169
  refine KV_ok ?_
  refine KV_if ?_ ?_
  · skip
    exact (kv_B_X8_builtIn_192 h_ro).tr jv_rf
  · skip
    exact (kv_B_X8_builtIn_192 h_ro).tr jv_rf
theorem kv_B_X8_builtIn_152 {N : Nat} {ro : Nat → Nat → Int32 → Int32 → CSt → Option (Sum Nat Int32 × CSt)} {l1 : Nat} {l2 : Int32} {s0 : Int32} {u : CSt} (h_ro : ∀ q z a b u, KV (ro q z a b u) u) : KV (B_X8_builtIn_152 N ro l1 l2 s0 u) u := by
  unfold B_X8_builtIn_152
  refine KV_if ?_ ?_
  · skip
    exact (kv_B_X8_builtIn_169 h_ro).tr jv_rf
  · skip
    exact (kv_B_X8_builtIn_169 h_ro).tr jv_rf
theorem kv_B_X8_builtIn_135 {N : Nat} {ro : Nat → Nat → Int32 → Int32 → CSt → Option (Sum Nat Int32 × CSt)} {l1 : Nat} {l2 : Int32} {l3 : Int32} {l4 : Int32} {s0 : Int32} {u : CSt} (h_ro : ∀ q z a b u, KV (ro q z a b u) u) : KV (B_X8_builtIn_135 N ro l1 l2 l3 l4 s0 u) u := by
  unfold B_X8_builtIn_135
  refine KV_if ?_ ?_
  · skip
    exact (kv_B_X8_builtIn_152 h_ro).tr jv_rf
  · skip
    exact (kv_B_X8_builtIn_152 h_ro).tr jv_rf
theorem kv_B_X8_builtIn_130 {N : Nat} {ro : Nat → Nat → Int32 → Int32 → CSt → Option (Sum Nat Int32 × CSt)} {l1 : Nat} {l2 : Int32} {l3 : Int32} {l4 : Int32} {u : CSt} (h_ro : ∀ q z a b u, KV (ro q z a b u) u) : KV (B_X8_builtIn_130 N ro l1 l2 l3 l4 u) u := by
  unfold B_X8_builtIn_130
  exact (kv_B_X8_builtIn_135 h_ro).tr jv_rf
theorem kv_B_X8_builtIn_112 {N : Nat} {ro : Nat → Nat → Int32 → Int32 → CSt → Option (Sum Nat Int32 × CSt)} {l1 : Nat} {l2 : Int32} {l3 : Int32} {l4 : Int32} {u : CSt} (h_ro : ∀ q z a b u, KV (ro q z a b u) u) : KV (B_X8_builtIn_112 N ro l1 l2 l3 l4 u) u := by
  unfold B_X8_builtIn_112
  refine KV_if ?_ ?_
  · skip
    exact (kv_B_X8_builtIn_130 h_ro).tr jv_rf
  · skip
    refine KV_if ?_ ?_
    · skip
      exact (kv_B_X8_builtIn_130 h_ro).tr jv_rf
    · skip
      exact (kv_B_X8_builtIn_135 h_ro).tr jv_rf
theorem kv_B_X8_builtIn_87 {N : Nat} {ro : Nat → Nat → Int32 → Int32 → CSt → Option (Sum Nat Int32 × CSt)} {l1 : Nat} {l2 : Int32} {l3 : Int32} {l4 : Int32} {l5 : Int32} {u : CSt} (h_ro : ∀ q z a b u, KV (ro q z a b u) u) : KV (B_X8_builtIn_87 N ro l1 l2 l3 l4 l5 u) u := by
  unfold B_X8_builtIn_87
  refine KV_bc (kv_F_X9_next.tr jv_rf) (fun _ _ => ?_)
  refine KV_if ?_ ?_
  · skip
    exact (kv_B_X8_builtIn_112 h_ro).tr jv_rf
  · skip
    refine KV_bt (kv_F_X9_refuse.tr jv_rf) (fun _ _ => ?_)
    exact (kv_B_X8_builtIn_112 h_ro).tr jv_rf
theorem kv_B_X8_builtIn_22 {N : Nat} {ro : Nat → Nat → Int32 → Int32 → CSt → Option (Sum Nat Int32 × CSt)} {R_22 : Nat × Int32 × Int32 × Int32 × Int32 × CSt → Option ((Sum Nat Int32) × CSt)} {l1 : Nat} {l2 : Int32} {l3 : Int32} {l4 : Int32} {l5 : Int32} {u : CSt} (h_ro : ∀ q z a b u, KV (ro q z a b u) u) (h_R_22 : ∀ a, KV (R_22 a) a.2.2.2.2.2) : KV (B_X8_builtIn_22 N ro R_22 l1 l2 l3 l4 l5 u) u := by
  unfold B_X8_builtIn_22
  refine KV_if ?_ ?_
  · skip
    exact (kv_B_X8_builtIn_87 h_ro).tr jv_rf
  · skip
    refine KV_bc (kv_F_X9_is.tr jv_rf) (fun _ _ => ?_)
    refine KV_if ?_ ?_
    · skip
      refine KV_if ?_ ?_
      · skip
        exact (kv_B_X8_builtIn_54 h_ro h_R_22).tr jv_rf
      · skip
        refine KV_bc (kv_F_X9_next.tr jv_rf) (fun _ _ => ?_)
        exact (kv_B_X8_builtIn_54 h_ro h_R_22).tr jv_rf
    · skip
      exact (kv_B_X8_builtIn_87 h_ro).tr jv_rf
theorem kv_LP_X8_builtIn_22 {N : Nat} {ro : Nat → Nat → Int32 → Int32 → CSt → Option (Sum Nat Int32 × CSt)} (h_ro : ∀ q z a b u, KV (ro q z a b u) u) (n : Nat) : ∀ a : Nat × Int32 × Int32 × Int32 × Int32 × CSt, KV (LP_X8_builtIn_22 N ro n a) a.2.2.2.2.2 := by
  induction n with
  | zero => exact fun a r z e => by have e : (none : Option _) = some (r, z) := e; cases e
  | succ n ih =>
    intro a
    show KV (B_X8_builtIn_22 N ro (LP_X8_builtIn_22 N ro n) a.1 a.2.1 a.2.2.1 a.2.2.2.1 a.2.2.2.2.1 a.2.2.2.2.2) a.2.2.2.2.2
    exact kv_B_X8_builtIn_22 h_ro ih
theorem kv_B_X8_builtIn_0 {N : Nat} {ro : Nat → Nat → Int32 → Int32 → CSt → Option (Sum Nat Int32 × CSt)} {l1 : Nat} {l2 : Int32} {u : CSt} (h_ro : ∀ q z a b u, KV (ro q z a b u) u) : KV (B_X8_builtIn_0 N ro l1 l2 u) u := by
  unfold B_X8_builtIn_0
  refine KV_bc (kv_F_X9_next.tr jv_rf) (fun _ _ => ?_)
  refine KV_bc (kv_F_X9_next.tr jv_rf) (fun _ _ => ?_)
  exact (kv_LP_X8_builtIn_22 h_ro _ _).tr jv_rf
theorem kv_F_X8_builtIn {N : Nat} {ro : Nat → Nat → Int32 → Int32 → CSt → Option (Sum Nat Int32 × CSt)} {l1 : Nat} {l2 : Int32} {u : CSt} (h_ro : ∀ q z a b u, KV (ro q z a b u) u) : KV (F_X8_builtIn N ro l1 l2 u) u := by
  unfold F_X8_builtIn
  exact (kv_B_X8_builtIn_0 h_ro).tr jv_rf
theorem kv_B_X8_arguments_147 {N : Nat} {ro : Nat → Nat → Int32 → Int32 → CSt → Option (Sum Nat Int32 × CSt)} {R_17 : Nat × Int32 × Int32 × Int32 × CSt → Option ((Sum Nat Int32) × CSt)} {l1 : Nat} {l2 : Int32} {l3 : Int32} {l4 : Int32} {u : CSt} (h_ro : ∀ q z a b u, KV (ro q z a b u) u) (h_R_17 : ∀ a, KV (R_17 a) a.2.2.2.2) : KV (B_X8_arguments_147 N ro R_17 l1 l2 l3 l4 u) u := by
  unfold B_X8_arguments_147
  exact (h_R_17 _).tr jv_rf
theorem kv_B_X8_arguments_109 {N : Nat} {ro : Nat → Nat → Int32 → Int32 → CSt → Option (Sum Nat Int32 × CSt)} {R_17 : Nat × Int32 × Int32 × Int32 × CSt → Option ((Sum Nat Int32) × CSt)} {l1 : Nat} {l2 : Int32} {l3 : Int32} {l4 : Int32} {l5 : Int32} {l7 : Nat} {u : CSt} (h_ro : ∀ q z a b u, KV (ro q z a b u) u) (h_R_17 : ∀ a, KV (R_17 a) a.2.2.2.2) : KV (B_X8_arguments_109 N ro R_17 l1 l2 l3 l4 l5 l7 u) u := by
  unfold B_X8_arguments_109
  refine KV_if ?_ ?_
  · skip
    refine KV_if ?_ ?_
    · skip
      exact (kv_B_X8_arguments_147 h_ro h_R_17).tr jv_rf
    · skip
      refine KV_ok ?_
      refine KV_bc (kv_F_X6_step.tr jv_rf) (fun _ _ => ?_)
      exact (kv_B_X8_arguments_147 h_ro h_R_17).tr jv_rf
  · skip
    exact (kv_B_X8_arguments_147 h_ro h_R_17).tr jv_rf
theorem kv_B_X8_arguments_49 {N : Nat} {ro : Nat → Nat → Int32 → Int32 → CSt → Option (Sum Nat Int32 × CSt)} {R_17 : Nat × Int32 × Int32 × Int32 × CSt → Option ((Sum Nat Int32) × CSt)} {l1 : Nat} {l2 : Int32} {l3 : Int32} {l4 : Int32} {u : CSt} (h_ro : ∀ q z a b u, KV (ro q z a b u) u) (h_R_17 : ∀ a, KV (R_17 a) a.2.2.2.2) : KV (B_X8_arguments_49 N ro R_17 l1 l2 l3 l4 u) u := by
  unfold B_X8_arguments_49
  refine KV_bc (kv_F_X9_here.tr jv_rf) (fun _ _ => ?_)
  refine KV_bt ((h_ro _ _ _ _ _).tr jv_rf) (fun _ _ => ?_)
  refine KV_ok ?_
  refine KV_bc (kv_F_X6_local.tr jv_rf) (fun _ _ => ?_)
  refine KV_ok ?_
  refine KV_if ?_ ?_
  · skip
    refine KV_bc (kv_F_X8_isTooWide.tr jv_rf) (fun _ _ => ?_)
    refine KV_if ?_ ?_
    · skip
      exact (kv_B_X8_arguments_109 h_ro h_R_17).tr jv_rf
    · skip
      refine KV_bt (kv_F_X9_refuse.tr jv_rf) (fun _ _ => ?_)
      exact (kv_B_X8_arguments_109 h_ro h_R_17).tr jv_rf
  · skip
    exact (kv_B_X8_arguments_109 h_ro h_R_17).tr jv_rf
theorem kv_B_X8_arguments_153 {N : Nat} {ro : Nat → Nat → Int32 → Int32 → CSt → Option (Sum Nat Int32 × CSt)} {l1 : Nat} {l3 : Int32} {l4 : Int32} {u : CSt} (h_ro : ∀ q z a b u, KV (ro q z a b u) u) : KV (B_X8_arguments_153 N ro l1 l3 l4 u) u := by
  unfold B_X8_arguments_153
  refine KV_bc (kv_F_X9_next.tr jv_rf) (fun _ _ => ?_)
  refine KV_if ?_ ?_
  · skip
    exact KV_some jv_rf
  · skip
    refine KV_bt (kv_F_X9_refuse.tr jv_rf) (fun _ _ => ?_)
    exact KV_some jv_rf
theorem kv_B_X8_arguments_17 {N : Nat} {ro : Nat → Nat → Int32 → Int32 → CSt → Option (Sum Nat Int32 × CSt)} {R_17 : Nat × Int32 × Int32 × Int32 × CSt → Option ((Sum Nat Int32) × CSt)} {l1 : Nat} {l2 : Int32} {l3 : Int32} {l4 : Int32} {u : CSt} (h_ro : ∀ q z a b u, KV (ro q z a b u) u) (h_R_17 : ∀ a, KV (R_17 a) a.2.2.2.2) : KV (B_X8_arguments_17 N ro R_17 l1 l2 l3 l4 u) u := by
  unfold B_X8_arguments_17
  refine KV_if ?_ ?_
  · skip
    exact (kv_B_X8_arguments_153 h_ro).tr jv_rf
  · skip
    refine KV_bc (kv_F_X9_is.tr jv_rf) (fun _ _ => ?_)
    refine KV_if ?_ ?_
    · skip
      refine KV_if ?_ ?_
      · skip
        exact (kv_B_X8_arguments_49 h_ro h_R_17).tr jv_rf
      · skip
        refine KV_bc (kv_F_X9_next.tr jv_rf) (fun _ _ => ?_)
        exact (kv_B_X8_arguments_49 h_ro h_R_17).tr jv_rf
    · skip
      exact (kv_B_X8_arguments_153 h_ro).tr jv_rf
theorem kv_LP_X8_arguments_17 {N : Nat} {ro : Nat → Nat → Int32 → Int32 → CSt → Option (Sum Nat Int32 × CSt)} (h_ro : ∀ q z a b u, KV (ro q z a b u) u) (n : Nat) : ∀ a : Nat × Int32 × Int32 × Int32 × CSt, KV (LP_X8_arguments_17 N ro n a) a.2.2.2.2 := by
  induction n with
  | zero => exact fun a r z e => by have e : (none : Option _) = some (r, z) := e; cases e
  | succ n ih =>
    intro a
    show KV (B_X8_arguments_17 N ro (LP_X8_arguments_17 N ro n) a.1 a.2.1 a.2.2.1 a.2.2.2.1 a.2.2.2.2) a.2.2.2.2
    exact kv_B_X8_arguments_17 h_ro ih
theorem kv_B_X8_arguments_0 {N : Nat} {ro : Nat → Nat → Int32 → Int32 → CSt → Option (Sum Nat Int32 × CSt)} {l1 : Nat} {l2 : Int32} {l3 : Int32} {u : CSt} (h_ro : ∀ q z a b u, KV (ro q z a b u) u) : KV (B_X8_arguments_0 N ro l1 l2 l3 u) u := by
  unfold B_X8_arguments_0
  refine KV_bc (kv_F_X9_next.tr jv_rf) (fun _ _ => ?_)
  refine KV_bc (kv_F_X9_next.tr jv_rf) (fun _ _ => ?_)
  exact (kv_LP_X8_arguments_17 h_ro _ _).tr jv_rf
theorem kv_F_X8_arguments {N : Nat} {ro : Nat → Nat → Int32 → Int32 → CSt → Option (Sum Nat Int32 × CSt)} {l1 : Nat} {l2 : Int32} {l3 : Int32} {u : CSt} (h_ro : ∀ q z a b u, KV (ro q z a b u) u) : KV (F_X8_arguments N ro l1 l2 l3 u) u := by
  unfold F_X8_arguments
  exact (kv_B_X8_arguments_0 h_ro).tr jv_rf
theorem kv_B_X8_index_22 {N : Nat} {ro : Nat → Nat → Int32 → Int32 → CSt → Option (Sum Nat Int32 × CSt)} {l1 : Nat} {l2 : Int32} {s0 : Nat} {s1 : Int32} {u : CSt} (h_ro : ∀ q z a b u, KV (ro q z a b u) u) : KV (B_X8_index_22 N ro l1 l2 s0 s1 u) u := by
  unfold B_X8_index_22
  refine KV_bc (kv_F_X6_step.tr jv_rf) (fun _ _ => ?_)
  exact KV_some jv_rf
theorem kv_B_X8_index_0 {N : Nat} {ro : Nat → Nat → Int32 → Int32 → CSt → Option (Sum Nat Int32 × CSt)} {l1 : Nat} {l2 : Int32} {u : CSt} (h_ro : ∀ q z a b u, KV (ro q z a b u) u) : KV (B_X8_index_0 N ro l1 l2 u) u := by
  unfold B_X8_index_0
  refine KV_bt ((h_ro _ _ _ _ _).tr jv_rf) (fun _ _ => ?_)
  refine KV_ok ?_
  refine KV_bc (kv_F_X4_isLocal.tr jv_rf) (fun _ _ => ?_)
  refine KV_if ?_ ?_
  · skip
    exact (kv_B_X8_index_22 h_ro).tr jv_rf
  · skip
    exact (kv_B_X8_index_22 h_ro).tr jv_rf
theorem kv_F_X8_index {N : Nat} {ro : Nat → Nat → Int32 → Int32 → CSt → Option (Sum Nat Int32 × CSt)} {l1 : Nat} {l2 : Int32} {u : CSt} (h_ro : ∀ q z a b u, KV (ro q z a b u) u) : KV (F_X8_index N ro l1 l2 u) u := by
  unfold F_X8_index
  exact (kv_B_X8_index_0 h_ro).tr jv_rf
theorem kv_B_X8_indexNumber_32 {N : Nat} {ro : Nat → Nat → Int32 → Int32 → CSt → Option (Sum Nat Int32 × CSt)} {u : CSt} (h_ro : ∀ q z a b u, KV (ro q z a b u) u) : KV (B_X8_indexNumber_32 N ro u) u := by
  unfold B_X8_indexNumber_32
  refine KV_bc (kv_F_X9_next.tr jv_rf) (fun _ _ => ?_)
  exact KV_some jv_rf
theorem kv_B_X8_indexNumber_0 {N : Nat} {ro : Nat → Nat → Int32 → Int32 → CSt → Option (Sum Nat Int32 × CSt)} {u : CSt} (h_ro : ∀ q z a b u, KV (ro q z a b u) u) : KV (B_X8_indexNumber_0 N ro u) u := by
  unfold B_X8_indexNumber_0
  refine KV_bc (kv_F_X9_next.tr jv_rf) (fun _ _ => ?_)
  refine KV_bc (kv_F_X9_here.tr jv_rf) (fun _ _ => ?_)
  refine KV_bt ((h_ro _ _ _ _ _).tr jv_rf) (fun _ _ => ?_)
  refine KV_if ?_ ?_
  · skip
    refine KV_bt (kv_F_X9_refuse.tr jv_rf) (fun _ _ => ?_)
    exact (kv_B_X8_indexNumber_32 h_ro).tr jv_rf
  · skip
    exact (kv_B_X8_indexNumber_32 h_ro).tr jv_rf
theorem kv_F_X8_indexNumber {N : Nat} {ro : Nat → Nat → Int32 → Int32 → CSt → Option (Sum Nat Int32 × CSt)} {u : CSt} (h_ro : ∀ q z a b u, KV (ro q z a b u) u) : KV (F_X8_indexNumber N ro u) u := by
  unfold F_X8_indexNumber
  exact (kv_B_X8_indexNumber_0 h_ro).tr jv_rf
theorem kv_FTE_ {N : Nat} : ∀ (d q z : Nat) (a b : Int32) (u : CSt), KV (FTE_ N d q z a b u) u := by
  intro d
  induction d with
  | zero => exact fun q z a b u => KV_none
  | succ d ih =>
    intro q z a b u
    show KV (if q = 0 then F_X8_expression N (FTE_ N d) u else if q = 1 then F_X8_operators N (FTE_ N d) u else if q = 2 then F_X8_operand N (FTE_ N d) u else if q = 3 then F_X8_signed N (FTE_ N d) a u else if q = 4 then F_X8_bracket N (FTE_ N d) a u else if q = 5 then F_X8_named N (FTE_ N d) a u else if q = 6 then F_X8_ofPlace N (FTE_ N d) a u else if q = 7 then F_X8_ofInstance N (FTE_ N d) a u else if q = 8 then F_X8_called N (FTE_ N d) a u else if q = 9 then F_X8_builtIn N (FTE_ N d) z a u else if q = 10 then F_X8_arguments N (FTE_ N d) z a b u else if q = 11 then F_X8_index N (FTE_ N d) z a u else if q = 12 then F_X8_indexNumber N (FTE_ N d) u else none) u
    refine KV_if (kv_F_X8_expression ih) ?_
    refine KV_if (kv_F_X8_operators ih) ?_
    refine KV_if (kv_F_X8_operand ih) ?_
    refine KV_if (kv_F_X8_signed ih) ?_
    refine KV_if (kv_F_X8_bracket ih) ?_
    refine KV_if (kv_F_X8_named ih) ?_
    refine KV_if (kv_F_X8_ofPlace ih) ?_
    refine KV_if (kv_F_X8_ofInstance ih) ?_
    refine KV_if (kv_F_X8_called ih) ?_
    refine KV_if (kv_F_X8_builtIn ih) ?_
    refine KV_if (kv_F_X8_arguments ih) ?_
    refine KV_if (kv_F_X8_index ih) ?_
    refine KV_if (kv_F_X8_indexNumber ih) ?_
    exact KV_none
theorem kv_G_X8_expression {N : Nat} {u : CSt} : KV (G_X8_expression N u) u := kv_FTE_ _ _ _ _ _ _
theorem kv_G_X8_arguments {N : Nat} {l1 : Nat} {l2 : Int32} {l3 : Int32} {u : CSt} : KV (G_X8_arguments N l1 l2 l3 u) u := kv_FTE_ _ _ _ _ _ _
theorem kv_G_X8_index {N : Nat} {l1 : Nat} {l2 : Int32} {u : CSt} : KV (G_X8_index N l1 l2 u) u := kv_FTE_ _ _ _ _ _ _
theorem kv_B_X3_newName_108 {N : Nat} {l1 : Int32} {l3 : Int64} {l5 : Int32} {u : CSt}  : KV (B_X3_newName_108 N l1 l3 l5 u) u := by
  unfold B_X3_newName_108
  refine KV_bc (kv_F_X9_next.tr jv_rf) (fun _ _ => ?_)
  refine KV_ok ?_
  refine KV_bc (kv_F_X6_add.tr jv_rf) (fun _ _ => ?_)
  refine KV_ok ?_
  exact KV_some jv_rf
theorem kv_B_X3_newName_88 {N : Nat} {l1 : Int32} {l2 : Int32} {l3 : Int64} {l5 : Int32} {u : CSt}  : KV (B_X3_newName_88 N l1 l2 l3 l5 u) u := by
  unfold B_X3_newName_88
  refine KV_ok ?_
  refine KV_bc (kv_F_X6_hasRoomFor.tr jv_rf) (fun _ _ => ?_)
  refine KV_if ?_ ?_
  · skip
    refine KV_bt (kv_F_X9_refuse.tr jv_rf) (fun _ _ => ?_)
    exact kv_B_X3_newName_108.tr jv_rf
  · skip
    exact kv_B_X3_newName_108.tr jv_rf
theorem kv_B_X3_newName_67 {N : Nat} {l1 : Int32} {l2 : Int32} {l3 : Int64} {l5 : Int32} {s0 : Nat} {u : CSt}  : KV (B_X3_newName_67 N l1 l2 l3 l5 s0 u) u := by
  unfold B_X3_newName_67
  refine KV_if ?_ ?_
  · skip
    exact kv_B_X3_newName_88.tr jv_rf
  · skip
    refine KV_bt (kv_F_X9_refuse.tr jv_rf) (fun _ _ => ?_)
    exact kv_B_X3_newName_88.tr jv_rf
theorem kv_B_X3_newName_0 {N : Nat} {l1 : Int32} {u : CSt}  : KV (B_X3_newName_0 N l1 u) u := by
  unfold B_X3_newName_0
  refine KV_bc (kv_F_X9_here.tr jv_rf) (fun _ _ => ?_)
  refine KV_bc (kv_F_X9_head.tr jv_rf) (fun _ _ => ?_)
  refine KV_bc (kv_F_X9_tail.tr jv_rf) (fun _ _ => ?_)
  refine KV_if ?_ ?_
  · skip
    refine KV_ok ?_
    refine KV_bc (kv_F_X6_name.tr jv_rf) (fun _ _ => ?_)
    refine KV_ok ?_
    refine KV_bc (kv_F_X6_localCalled.tr jv_rf) (fun _ _ => ?_)
    refine KV_ok ?_
    exact kv_B_X3_newName_67.tr jv_rf
  · skip
    refine KV_ok ?_
    refine KV_bc (kv_F_X6_ofText.tr jv_rf) (fun _ _ => ?_)
    refine KV_ok ?_
    exact kv_B_X3_newName_67.tr jv_rf
theorem kv_F_X3_newName {N : Nat} {l1 : Int32} {u : CSt}  : KV (F_X3_newName N l1 u) u := by
  unfold F_X3_newName
  exact kv_B_X3_newName_0.tr jv_rf
theorem kv_B_X3_allot_0 {N : Nat} {l1 : Int32} {l2 : Int32} {l3 : Int32} {u : CSt}  : KV (B_X3_allot_0 N l1 l2 l3 u) u := by
  unfold B_X3_allot_0
  refine KV_rd (fun _ => ?_)
  refine KV_wc ?_
  refine KV_pc ?_
  refine KV_rd (fun _ => ?_)
  refine KV_if ?_ ?_
  · skip
    exact KV_some (fv_xI (by first | decide | (refine ⟨?_, ?_⟩ <;> omega)) (fv_xA (by first | decide | (refine ⟨?_, ?_⟩ <;> omega)) jv_rf))
  · skip
    refine KV_bt (kv_F_X9_refuse.tr (fv_xI (by first | decide | (refine ⟨?_, ?_⟩ <;> omega)) (fv_xA (by first | decide | (refine ⟨?_, ?_⟩ <;> omega)) jv_rf))) (fun _ _ => ?_)
    exact KV_some jv_rf
theorem kv_F_X3_allot {N : Nat} {l1 : Int32} {l2 : Int32} {l3 : Int32} {u : CSt}  : KV (F_X3_allot N l1 l2 l3 u) u := by
  unfold F_X3_allot
  exact kv_B_X3_allot_0.tr jv_rf
theorem kv_B_X3_join_64 {N : Nat} {l2 : Int32} {l3 : Nat} {s0 : Nat} {s1 : Int32} {s2 : Int32} {u : CSt}  : KV (B_X3_join_64 N l2 l3 s0 s1 s2 u) u := by
  unfold B_X3_join_64
  refine KV_pc ?_
  refine KV_if ?_ ?_
  · skip
    exact KV_some (fv_xmI jv_rf)
  · skip
    refine KV_bt (kv_F_X9_refuse.tr (fv_xmI jv_rf)) (fun _ _ => ?_)
    exact KV_some jv_rf
theorem kv_B_X3_join_0 {N : Nat} {l1 : Nat} {l2 : Int32} {u : CSt}  : KV (B_X3_join_0 N l1 l2 u) u := by
  unfold B_X3_join_0
  refine KV_ok ?_
  refine KV_bc (kv_F_X6_name.tr jv_rf) (fun _ _ => ?_)
  refine KV_ok ?_
  refine KV_pc ?_
  refine KV_pc ?_
  refine KV_pc ?_
  refine KV_if ?_ ?_
  · skip
    exact kv_B_X3_join_64.tr (fv_xmI (fv_xmI (fv_xmI jv_rf)))
  · skip
    exact kv_B_X3_join_64.tr (fv_xmI (fv_xmI (fv_xmI jv_rf)))
theorem kv_F_X3_join {N : Nat} {l1 : Nat} {l2 : Int32} {u : CSt}  : KV (F_X3_join N l1 l2 u) u := by
  unfold F_X3_join
  exact kv_B_X3_join_0.tr jv_rf
theorem kv_B_X3_constant_60 {N : Nat} {l1 : Int32} {l3 : Int32} {l5 : Int64} {u : CSt}  : KV (B_X3_constant_60 N l1 l3 l5 u) u := by
  unfold B_X3_constant_60
  refine KV_if ?_ ?_
  · skip
    refine KV_bt (kv_F_X9_refuse.tr jv_rf) (fun _ _ => ?_)
    exact KV_some jv_rf
  · skip
    exact KV_some jv_rf
theorem kv_B_X3_constant_21 {N : Nat} {l1 : Int32} {l2 : Int32} {u : CSt}  : KV (B_X3_constant_21 N l1 l2 u) u := by
  unfold B_X3_constant_21
  refine KV_bc (kv_F_X9_here.tr jv_rf) (fun _ _ => ?_)
  refine KV_bc (kv_F_X9_isWide.tr jv_rf) (fun _ _ => ?_)
  refine KV_bt (kv_F_X9_takeNumber.tr jv_rf) (fun _ _ => ?_)
  refine KV_if ?_ ?_
  · skip
    exact kv_B_X3_constant_60.tr jv_rf
  · skip
    exact kv_B_X3_constant_60.tr jv_rf
theorem kv_B_X3_constant_0 {N : Nat} {l1 : Int32} {u : CSt}  : KV (B_X3_constant_0 N l1 u) u := by
  unfold B_X3_constant_0
  refine KV_bc (kv_F_X9_is.tr jv_rf) (fun _ _ => ?_)
  refine KV_if ?_ ?_
  · skip
    exact kv_B_X3_constant_21.tr jv_rf
  · skip
    refine KV_bc (kv_F_X9_next.tr jv_rf) (fun _ _ => ?_)
    exact kv_B_X3_constant_21.tr jv_rf
theorem kv_F_X3_constant {N : Nat} {l1 : Int32} {u : CSt}  : KV (F_X3_constant N l1 u) u := by
  unfold F_X3_constant
  exact kv_B_X3_constant_0.tr jv_rf
theorem kv_B_X3_oneVariable_112 {N : Nat} {l1 : Int32} {l3 : Int32} {l4 : Int32} {l5 : Nat} {u : CSt}  : KV (B_X3_oneVariable_112 N l1 l3 l4 l5 u) u := by
  unfold B_X3_oneVariable_112
  refine KV_if ?_ ?_
  · skip
    refine KV_pc ?_
    refine KV_bt (kv_F_X3_allot.tr (fv_xmI jv_rf)) (fun _ _ => ?_)
    exact KV_some jv_rf
  · skip
    refine KV_bt (kv_F_X3_join.tr jv_rf) (fun _ _ => ?_)
    exact KV_some jv_rf
theorem kv_B_X3_oneVariable_83 {N : Nat} {l1 : Int32} {l3 : Int32} {l4 : Int32} {l5 : Nat} {u : CSt}  : KV (B_X3_oneVariable_83 N l1 l3 l4 l5 u) u := by
  unfold B_X3_oneVariable_83
  refine KV_bc (kv_F_X9_is.tr jv_rf) (fun _ _ => ?_)
  refine KV_if ?_ ?_
  · skip
    exact kv_B_X3_oneVariable_112.tr jv_rf
  · skip
    refine KV_bc (kv_F_X9_next.tr jv_rf) (fun _ _ => ?_)
    refine KV_bt (kv_F_X3_constant.tr jv_rf) (fun _ _ => ?_)
    refine KV_pc ?_
    exact kv_B_X3_oneVariable_112.tr (fv_xmL jv_rf)
theorem kv_B_X3_oneVariable_0 {N : Nat} {l1 : Int32} {l2 : Int32} {l3 : Int32} {u : CSt}  : KV (B_X3_oneVariable_0 N l1 l2 l3 u) u := by
  unfold B_X3_oneVariable_0
  refine KV_bc (kv_F_X9_here.tr jv_rf) (fun _ _ => ?_)
  refine KV_bt (kv_F_X3_newName.tr jv_rf) (fun _ _ => ?_)
  refine KV_ok ?_
  refine KV_pc ?_
  refine KV_pc ?_
  refine KV_pc ?_
  refine KV_bc (kv_F_X9_is.tr (fv_xmI (fv_xmI (fv_xmI jv_rf)))) (fun _ _ => ?_)
  refine KV_if ?_ ?_
  · skip
    exact kv_B_X3_oneVariable_83.tr jv_rf
  · skip
    refine KV_bc (kv_F_X9_next.tr jv_rf) (fun _ _ => ?_)
    refine KV_pc ?_
    refine KV_bt (kv_F_X9_takeBounded.tr (fv_xmI jv_rf)) (fun _ _ => ?_)
    refine KV_pc ?_
    refine KV_bc (kv_F_X9_next.tr (fv_xmI jv_rf)) (fun _ _ => ?_)
    exact kv_B_X3_oneVariable_83.tr jv_rf
theorem kv_F_X3_oneVariable {N : Nat} {l1 : Int32} {l2 : Int32} {l3 : Int32} {u : CSt}  : KV (F_X3_oneVariable N l1 l2 l3 u) u := by
  unfold F_X3_oneVariable
  exact kv_B_X3_oneVariable_0.tr jv_rf
theorem kv_B_X3_variables_58 {N : Nat} {u : CSt}  : KV (B_X3_variables_58 N u) u := by
  unfold B_X3_variables_58
  refine KV_bc (kv_F_X9_next.tr jv_rf) (fun _ _ => ?_)
  exact KV_some jv_rf
theorem kv_B_X3_variables_18 {N : Nat} {R_18 : Int32 × Int32 × Int32 × Int32 × CSt → Option ((Sum Nat Int32) × CSt)} {l1 : Int32} {l2 : Int32} {l3 : Int32} {l4 : Int32} {u : CSt} (h_R_18 : ∀ a, KV (R_18 a) a.2.2.2.2) : KV (B_X3_variables_18 N R_18 l1 l2 l3 l4 u) u := by
  unfold B_X3_variables_18
  refine KV_if ?_ ?_
  · skip
    exact kv_B_X3_variables_58.tr jv_rf
  · skip
    refine KV_bc (kv_F_X9_is.tr jv_rf) (fun _ _ => ?_)
    refine KV_if ?_ ?_
    · skip
      exact kv_B_X3_variables_58.tr jv_rf
    · skip
      refine KV_bc (kv_F_X9_next.tr jv_rf) (fun _ _ => ?_)
      refine KV_bt (kv_F_X3_oneVariable.tr jv_rf) (fun _ _ => ?_)
      exact (h_R_18 _).tr jv_rf
theorem kv_LP_X3_variables_18 {N : Nat}  (n : Nat) : ∀ a : Int32 × Int32 × Int32 × Int32 × CSt, KV (LP_X3_variables_18 N n a) a.2.2.2.2 := by
  induction n with
  | zero => exact fun a r z e => by have e : (none : Option _) = some (r, z) := e; cases e
  | succ n ih =>
    intro a
    show KV (B_X3_variables_18 N (LP_X3_variables_18 N n) a.1 a.2.1 a.2.2.1 a.2.2.2.1 a.2.2.2.2) a.2.2.2.2
    exact kv_B_X3_variables_18 ih
theorem kv_B_X3_variables_0 {N : Nat} {l1 : Int32} {l2 : Int32} {u : CSt}  : KV (B_X3_variables_0 N l1 l2 u) u := by
  unfold B_X3_variables_0
  refine KV_bc (kv_F_X9_takeKind.tr jv_rf) (fun _ _ => ?_)
  refine KV_bt (kv_F_X3_oneVariable.tr jv_rf) (fun _ _ => ?_)
  exact (kv_LP_X3_variables_18  _ _).tr jv_rf
theorem kv_F_X3_variables {N : Nat} {l1 : Int32} {l2 : Int32} {u : CSt}  : KV (F_X3_variables N l1 l2 u) u := by
  unfold F_X3_variables
  exact kv_B_X3_variables_0.tr jv_rf
theorem kv_B_X3_placed_0 {N : Nat} {l1 : Int32} {u : CSt}  : KV (B_X3_placed_0 N l1 u) u := by
  unfold B_X3_placed_0
  refine KV_bc (kv_F_X9_takeKind.tr jv_rf) (fun _ _ => ?_)
  refine KV_bt (kv_F_X3_newName.tr jv_rf) (fun _ _ => ?_)
  refine KV_ok ?_
  refine KV_pc ?_
  refine KV_pc ?_
  refine KV_pc ?_
  refine KV_bc (kv_F_X9_next.tr (fv_xmI (fv_xmI (fv_xmI jv_rf)))) (fun _ _ => ?_)
  refine KV_rd (fun _ => ?_)
  refine KV_bt (kv_F_X9_takeBounded.tr jv_rf) (fun _ _ => ?_)
  refine KV_pc ?_
  refine KV_bc (kv_F_X9_next.tr (fv_xmI jv_rf)) (fun _ _ => ?_)
  exact KV_some jv_rf
theorem kv_F_X3_placed {N : Nat} {l1 : Int32} {u : CSt}  : KV (F_X3_placed N l1 u) u := by
  unfold F_X3_placed
  exact kv_B_X3_placed_0.tr jv_rf
theorem kv_B_X3_oneUse_33 {N : Nat} {R_33 : Nat × Int32 × Int32 × CSt → Option ((Sum Nat Int32) × CSt)} {l1 : Nat} {l2 : Int32} {l4 : Int32} {u : CSt} (h_R_33 : ∀ a, KV (R_33 a) a.2.2.2) : KV (B_X3_oneUse_33 N R_33 l1 l2 l4 u) u := by
  unfold B_X3_oneUse_33
  refine KV_if ?_ ?_
  · skip
    exact KV_some jv_rf
  · skip
    refine KV_ok ?_
    refine KV_bc (kv_F_X6_local.tr jv_rf) (fun _ _ => ?_)
    refine KV_ok ?_
    refine KV_bt (kv_F_X3_allot.tr jv_rf) (fun _ _ => ?_)
    exact (h_R_33 _).tr jv_rf
theorem kv_LP_X3_oneUse_33 {N : Nat}  (n : Nat) : ∀ a : Nat × Int32 × Int32 × CSt, KV (LP_X3_oneUse_33 N n a) a.2.2.2 := by
  induction n with
  | zero => exact fun a r z e => by have e : (none : Option _) = some (r, z) := e; cases e
  | succ n ih =>
    intro a
    show KV (B_X3_oneUse_33 N (LP_X3_oneUse_33 N n) a.1 a.2.1 a.2.2.1 a.2.2.2) a.2.2.2
    exact kv_B_X3_oneUse_33 ih
theorem kv_B_X3_oneUse_0 {N : Nat} {l1 : Nat} {u : CSt}  : KV (B_X3_oneUse_0 N l1 u) u := by
  unfold B_X3_oneUse_0
  refine KV_bc (kv_F_X9_here.tr jv_rf) (fun _ _ => ?_)
  refine KV_bt (kv_F_X3_newName.tr jv_rf) (fun _ _ => ?_)
  refine KV_ok ?_
  refine KV_pc ?_
  refine KV_pc ?_
  exact (kv_LP_X3_oneUse_33  _ _).tr (fv_xmI (fv_xmI jv_rf))
theorem kv_F_X3_oneUse {N : Nat} {l1 : Nat} {u : CSt}  : KV (F_X3_oneUse N l1 u) u := by
  unfold F_X3_oneUse
  exact kv_B_X3_oneUse_0.tr jv_rf
theorem kv_B_X3_uses_82 {N : Nat} {u : CSt}  : KV (B_X3_uses_82 N u) u := by
  unfold B_X3_uses_82
  refine KV_bc (kv_F_X9_next.tr jv_rf) (fun _ _ => ?_)
  exact KV_some jv_rf
theorem kv_B_X3_uses_45 {N : Nat} {R_45 : Nat × Int32 × CSt → Option ((Sum Nat Int32) × CSt)} {l1 : Nat} {l2 : Int32} {u : CSt} (h_R_45 : ∀ a, KV (R_45 a) a.2.2) : KV (B_X3_uses_45 N R_45 l1 l2 u) u := by
  unfold B_X3_uses_45
  refine KV_if ?_ ?_
  · skip
    exact kv_B_X3_uses_82.tr jv_rf
  · skip
    refine KV_bc (kv_F_X9_is.tr jv_rf) (fun _ _ => ?_)
    refine KV_if ?_ ?_
    · skip
      exact kv_B_X3_uses_82.tr jv_rf
    · skip
      refine KV_bc (kv_F_X9_next.tr jv_rf) (fun _ _ => ?_)
      refine KV_bt (kv_F_X3_oneUse.tr jv_rf) (fun _ _ => ?_)
      exact (h_R_45 _).tr jv_rf
theorem kv_LP_X3_uses_45 {N : Nat}  (n : Nat) : ∀ a : Nat × Int32 × CSt, KV (LP_X3_uses_45 N n a) a.2.2 := by
  induction n with
  | zero => exact fun a r z e => by have e : (none : Option _) = some (r, z) := e; cases e
  | succ n ih =>
    intro a
    show KV (B_X3_uses_45 N (LP_X3_uses_45 N n) a.1 a.2.1 a.2.2) a.2.2
    exact kv_B_X3_uses_45 ih
theorem kv_B_X3_uses_31 {N : Nat} {l1 : Nat} {u : CSt}  : KV (B_X3_uses_31 N l1 u) u := by
  unfold B_X3_uses_31
  refine KV_bc (kv_F_X9_next.tr jv_rf) (fun _ _ => ?_)
  refine KV_bt (kv_F_X3_oneUse.tr jv_rf) (fun _ _ => ?_)
  exact (kv_LP_X3_uses_45  _ _).tr jv_rf
theorem kv_B_X3_uses_0 {N : Nat} {u : CSt}  : KV (B_X3_uses_0 N u) u := by
  unfold B_X3_uses_0
  refine KV_bc (kv_F_X8_known.tr jv_rf) (fun _ _ => ?_)
  refine KV_ok ?_
  refine KV_if ?_ ?_
  · skip
    exact kv_B_X3_uses_31.tr jv_rf
  · skip
    refine KV_bc (kv_F_X9_here.tr jv_rf) (fun _ _ => ?_)
    refine KV_bt (kv_F_X9_refuse.tr jv_rf) (fun _ _ => ?_)
    exact kv_B_X3_uses_31.tr jv_rf
theorem kv_F_X3_uses {N : Nat} {u : CSt}  : KV (F_X3_uses N u) u := by
  unfold F_X3_uses
  exact kv_B_X3_uses_0.tr jv_rf
theorem kv_B_X3_parameter_19 {N : Nat} {u : CSt}  : KV (B_X3_parameter_19 N u) u := by
  unfold B_X3_parameter_19
  refine KV_bc (kv_F_X9_takeKind.tr jv_rf) (fun _ _ => ?_)
  refine KV_bc (kv_F_X9_here.tr jv_rf) (fun _ _ => ?_)
  refine KV_bt (kv_F_X3_newName.tr jv_rf) (fun _ _ => ?_)
  refine KV_ok ?_
  refine KV_pc ?_
  refine KV_pc ?_
  refine KV_bt (kv_F_X3_join.tr (fv_xmI (fv_xmI jv_rf))) (fun _ _ => ?_)
  exact KV_some jv_rf
theorem kv_B_X3_parameter_0 {N : Nat} {u : CSt}  : KV (B_X3_parameter_0 N u) u := by
  unfold B_X3_parameter_0
  refine KV_bc (kv_F_X9_is.tr jv_rf) (fun _ _ => ?_)
  refine KV_if ?_ ?_
  · skip
    exact kv_B_X3_parameter_19.tr jv_rf
  · skip
    refine KV_bc (kv_F_X9_next.tr jv_rf) (fun _ _ => ?_)
    exact kv_B_X3_parameter_19.tr jv_rf
theorem kv_F_X3_parameter {N : Nat} {u : CSt}  : KV (F_X3_parameter N u) u := by
  unfold F_X3_parameter
  exact kv_B_X3_parameter_0.tr jv_rf
theorem kv_B_X3_put_0 {N : Nat} {l1 : Nat} {l2 : Int32} {u : CSt}  : KV (B_X3_put_0 N l1 l2 u) u := by
  unfold B_X3_put_0
  refine KV_if ?_ ?_
  · skip
    refine KV_bc (kv_F_X8_set.tr jv_rf) (fun _ _ => ?_)
    exact KV_some jv_rf
  · skip
    refine KV_ok ?_
    refine KV_bc (kv_F_X6_step.tr jv_rf) (fun _ _ => ?_)
    exact KV_some jv_rf
theorem kv_F_X3_put {N : Nat} {l1 : Nat} {l2 : Int32} {u : CSt}  : KV (F_X3_put N l1 l2 u) u := by
  unfold F_X3_put
  exact kv_B_X3_put_0.tr jv_rf
theorem kv_B_X3_setPlain_0 {N : Nat} {l1 : Nat} {u : CSt}  : KV (B_X3_setPlain_0 N l1 u) u := by
  unfold B_X3_setPlain_0
  refine KV_bc (kv_F_X9_here.tr jv_rf) (fun _ _ => ?_)
  refine KV_bc (kv_F_X9_next.tr jv_rf) (fun _ _ => ?_)
  refine KV_bt (kv_G_X8_expression.tr jv_rf) (fun _ _ => ?_)
  refine KV_bc (kv_F_X8_isTooWide.tr jv_rf) (fun _ _ => ?_)
  refine KV_if ?_ ?_
  · skip
    exact KV_some jv_rf
  · skip
    refine KV_bt (kv_F_X9_refuse.tr jv_rf) (fun _ _ => ?_)
    exact KV_some jv_rf
theorem kv_F_X3_setPlain {N : Nat} {l1 : Nat} {u : CSt}  : KV (F_X3_setPlain N l1 u) u := by
  unfold F_X3_setPlain
  exact kv_B_X3_setPlain_0.tr jv_rf
theorem kv_B_X3_setBit_75 {N : Nat} {l1 : Nat} {l2 : Int32} {l3 : Int32} {u : CSt}  : KV (B_X3_setBit_75 N l1 l2 l3 u) u := by
  unfold B_X3_setBit_75
  refine KV_ok ?_
  refine KV_bc (kv_F_X6_step.tr jv_rf) (fun _ _ => ?_)
  refine KV_bc (kv_F_X3_put.tr jv_rf) (fun _ _ => ?_)
  exact KV_some jv_rf
theorem kv_B_X3_setBit_27 {N : Nat} {l1 : Nat} {l2 : Int32} {l3 : Int32} {u : CSt}  : KV (B_X3_setBit_27 N l1 l2 l3 u) u := by
  unfold B_X3_setBit_27
  refine KV_bc (kv_F_X9_next.tr jv_rf) (fun _ _ => ?_)
  refine KV_bt (kv_G_X8_expression.tr jv_rf) (fun _ _ => ?_)
  refine KV_if ?_ ?_
  · skip
    refine KV_bc (kv_F_X8_get.tr jv_rf) (fun _ _ => ?_)
    exact kv_B_X3_setBit_75.tr jv_rf
  · skip
    refine KV_ok ?_
    refine KV_bc (kv_F_X6_step.tr jv_rf) (fun _ _ => ?_)
    exact kv_B_X3_setBit_75.tr jv_rf
theorem kv_B_X3_setBit_0 {N : Nat} {l1 : Nat} {l2 : Int32} {l3 : Int32} {u : CSt}  : KV (B_X3_setBit_0 N l1 l2 l3 u) u := by
  unfold B_X3_setBit_0
  refine KV_bc (kv_F_X9_is.tr jv_rf) (fun _ _ => ?_)
  refine KV_if ?_ ?_
  · skip
    refine KV_bc (kv_F_X9_here.tr jv_rf) (fun _ _ => ?_)
    refine KV_bt (kv_F_X9_refuse.tr jv_rf) (fun _ _ => ?_)
    exact kv_B_X3_setBit_27.tr jv_rf
  · skip
    exact kv_B_X3_setBit_27.tr jv_rf
theorem kv_F_X3_setBit {N : Nat} {l1 : Nat} {l2 : Int32} {l3 : Int32} {u : CSt}  : KV (F_X3_setBit N l1 l2 l3 u) u := by
  unfold F_X3_setBit
  exact kv_B_X3_setBit_0.tr jv_rf
theorem kv_B_X3_change_98 {N : Nat} {l1 : Nat} {l4 : Int32} {s1 : Int32} {u : CSt}  : KV (B_X3_change_98 N l1 l4 s1 u) u := by
  unfold B_X3_change_98
  refine KV_bc (kv_F_X8_combine.tr jv_rf) (fun _ _ => ?_)
  exact KV_some jv_rf
theorem kv_B_X3_change_71 {N : Nat} {l1 : Nat} {l3 : Int32} {l4 : Int32} {u : CSt}  : KV (B_X3_change_71 N l1 l3 l4 u) u := by
  unfold B_X3_change_71
  refine KV_ok ?_
  refine KV_bc (kv_F_X6_constant.tr jv_rf) (fun _ _ => ?_)
  refine KV_if ?_ ?_
  · skip
    exact kv_B_X3_change_98.tr jv_rf
  · skip
    exact kv_B_X3_change_98.tr jv_rf
theorem kv_B_X3_change_50 {N : Nat} {l1 : Nat} {l3 : Int32} {l4 : Int32} {u : CSt}  : KV (B_X3_change_50 N l1 l3 l4 u) u := by
  unfold B_X3_change_50
  refine KV_bc (kv_F_X9_next.tr jv_rf) (fun _ _ => ?_)
  refine KV_if ?_ ?_
  · skip
    exact kv_B_X3_change_71.tr jv_rf
  · skip
    refine KV_if ?_ ?_
    · skip
      exact kv_B_X3_change_71.tr jv_rf
    · skip
      refine KV_bt (kv_G_X8_expression.tr jv_rf) (fun _ _ => ?_)
      refine KV_pb (fun _ => ?_)
      refine KV_bc (kv_F_X8_combine.tr jv_rf) (fun _ _ => ?_)
      exact KV_some jv_rf
theorem kv_B_X3_change_0 {N : Nat} {l1 : Nat} {l2 : Int32} {u : CSt}  : KV (B_X3_change_0 N l1 l2 u) u := by
  unfold B_X3_change_0
  refine KV_bc (kv_F_X9_type.tr jv_rf) (fun _ _ => ?_)
  refine KV_bc (kv_F_X9_here.tr jv_rf) (fun _ _ => ?_)
  refine KV_if ?_ ?_
  · skip
    refine KV_bc (kv_F_X8_get.tr jv_rf) (fun _ _ => ?_)
    exact kv_B_X3_change_50.tr jv_rf
  · skip
    refine KV_ok ?_
    refine KV_bc (kv_F_X6_step.tr jv_rf) (fun _ _ => ?_)
    exact kv_B_X3_change_50.tr jv_rf
theorem kv_F_X3_change {N : Nat} {l1 : Nat} {l2 : Int32} {u : CSt}  : KV (F_X3_change N l1 l2 u) u := by
  unfold F_X3_change
  exact kv_B_X3_change_0.tr jv_rf
theorem kv_B_X3_assignment_104 {N : Nat} {u : CSt}  : KV (B_X3_assignment_104 N u) u := by
  unfold B_X3_assignment_104
  refine KV_bc (kv_F_X9_next.tr jv_rf) (fun _ _ => ?_)
  exact KV_some jv_rf
theorem kv_B_X3_assignment_32 {N : Nat} {l1 : Int32} {l2 : Nat} {u : CSt}  : KV (B_X3_assignment_32 N l1 l2 u) u := by
  unfold B_X3_assignment_32
  refine KV_bc (kv_F_X9_is.tr jv_rf) (fun _ _ => ?_)
  refine KV_if ?_ ?_
  · skip
    refine KV_bc (kv_F_X9_is.tr jv_rf) (fun _ _ => ?_)
    refine KV_if ?_ ?_
    · skip
      refine KV_bt (kv_F_X3_change.tr jv_rf) (fun _ _ => ?_)
      refine KV_bc (kv_F_X3_put.tr jv_rf) (fun _ _ => ?_)
      exact kv_B_X3_assignment_104.tr jv_rf
    · skip
      refine KV_bt (kv_F_X3_setPlain.tr jv_rf) (fun _ _ => ?_)
      refine KV_bc (kv_F_X3_put.tr jv_rf) (fun _ _ => ?_)
      exact kv_B_X3_assignment_104.tr jv_rf
  · skip
    refine KV_bt (kv_F_X8_bit.tr jv_rf) (fun _ _ => ?_)
    refine KV_bt (kv_F_X3_setBit.tr jv_rf) (fun _ _ => ?_)
    exact kv_B_X3_assignment_104.tr jv_rf
theorem kv_B_X3_assignment_0 {N : Nat} {l1 : Int32} {u : CSt}  : KV (B_X3_assignment_0 N l1 u) u := by
  unfold B_X3_assignment_0
  refine KV_bt (kv_F_X8_placeName.tr jv_rf) (fun _ _ => ?_)
  refine KV_ok ?_
  refine KV_bc (kv_F_X9_next.tr jv_rf) (fun _ _ => ?_)
  refine KV_if ?_ ?_
  · skip
    exact kv_B_X3_assignment_32.tr jv_rf
  · skip
    refine KV_bt (kv_G_X8_index.tr jv_rf) (fun _ _ => ?_)
    exact kv_B_X3_assignment_32.tr jv_rf
theorem kv_F_X3_assignment {N : Nat} {l1 : Int32} {u : CSt}  : KV (F_X3_assignment N l1 u) u := by
  unfold F_X3_assignment
  exact kv_B_X3_assignment_0.tr jv_rf
theorem kv_B_X3_instanceCall_25 {N : Nat} {l1 : Int32} {l2 : Nat} {u : CSt}  : KV (B_X3_instanceCall_25 N l1 l2 u) u := by
  unfold B_X3_instanceCall_25
  refine KV_ok ?_
  refine KV_bc (kv_F_X6_cost.tr jv_rf) (fun _ _ => ?_)
  refine KV_ok ?_
  refine KV_bc (kv_F_X6_name.tr jv_rf) (fun _ _ => ?_)
  refine KV_ok ?_
  refine KV_bt (kv_G_X8_arguments.tr jv_rf) (fun _ _ => ?_)
  refine KV_ok ?_
  refine KV_bc (kv_F_X6_step.tr jv_rf) (fun _ _ => ?_)
  refine KV_bc (kv_F_X9_next.tr jv_rf) (fun _ _ => ?_)
  exact KV_some jv_rf
theorem kv_B_X3_instanceCall_0 {N : Nat} {l1 : Int32} {u : CSt}  : KV (B_X3_instanceCall_0 N l1 u) u := by
  unfold B_X3_instanceCall_0
  refine KV_bc (kv_F_X8_known.tr jv_rf) (fun _ _ => ?_)
  refine KV_ok ?_
  refine KV_if ?_ ?_
  · skip
    exact kv_B_X3_instanceCall_25.tr jv_rf
  · skip
    refine KV_bt (kv_F_X9_refuse.tr jv_rf) (fun _ _ => ?_)
    exact kv_B_X3_instanceCall_25.tr jv_rf
theorem kv_F_X3_instanceCall {N : Nat} {l1 : Int32} {u : CSt}  : KV (F_X3_instanceCall N l1 u) u := by
  unfold F_X3_instanceCall
  exact kv_B_X3_instanceCall_0.tr jv_rf
theorem kv_B_X3_leave_69 {N : Nat} {u : CSt}  : KV (B_X3_leave_69 N u) u := by
  unfold B_X3_leave_69
  refine KV_bc (kv_F_X9_next.tr jv_rf) (fun _ _ => ?_)
  refine KV_bc (kv_F_X9_next.tr jv_rf) (fun _ _ => ?_)
  exact KV_some jv_rf
theorem kv_B_X3_leave_16 {N : Nat} {l1 : Int32} {u : CSt}  : KV (B_X3_leave_16 N l1 u) u := by
  unfold B_X3_leave_16
  refine KV_bc (kv_F_X9_is.tr jv_rf) (fun _ _ => ?_)
  refine KV_if ?_ ?_
  · skip
    refine KV_ok ?_
    refine KV_bc (kv_F_X6_step.tr jv_rf) (fun _ _ => ?_)
    refine KV_pc ?_
    exact kv_B_X3_leave_69.tr (fv_xI (by first | decide | (refine ⟨?_, ?_⟩ <;> omega)) jv_rf)
  · skip
    refine KV_ok ?_
    refine KV_bc (kv_F_X6_step.tr jv_rf) (fun _ _ => ?_)
    refine KV_pc ?_
    exact kv_B_X3_leave_69.tr (fv_xI (by first | decide | (refine ⟨?_, ?_⟩ <;> omega)) jv_rf)
theorem kv_B_X3_leave_0 {N : Nat} {l1 : Int32} {u : CSt}  : KV (B_X3_leave_0 N l1 u) u := by
  unfold B_X3_leave_0
  refine KV_if ?_ ?_
  · skip
    refine KV_bt (kv_F_X9_refuse.tr jv_rf) (fun _ _ => ?_)
    exact kv_B_X3_leave_16.tr jv_rf
  · skip
    exact kv_B_X3_leave_16.tr jv_rf
theorem kv_F_X3_leave {N : Nat} {l1 : Int32} {u : CSt}  : KV (F_X3_leave N l1 u) u := by
  unfold F_X3_leave
  exact kv_B_X3_leave_0.tr jv_rf
theorem kv_B_X3_returned_147 {N : Nat} {u : CSt}  : KV (B_X3_returned_147 N u) u := by
  unfold B_X3_returned_147
  refine KV_bc (kv_F_X9_next.tr jv_rf) (fun _ _ => ?_)
  exact KV_some jv_rf
theorem kv_B_X3_returned_115 {N : Nat} {l1 : Int32} {l3 : Nat} {u : CSt}  : KV (B_X3_returned_115 N l1 l3 u) u := by
  unfold B_X3_returned_115
  refine KV_ok ?_
  refine KV_bc (kv_F_X6_step.tr jv_rf) (fun _ _ => ?_)
  exact kv_B_X3_returned_147.tr jv_rf
theorem kv_B_X3_returned_60 {N : Nat} {l1 : Int32} {l2 : Int32} {l3 : Nat} {u : CSt}  : KV (B_X3_returned_60 N l1 l2 l3 u) u := by
  unfold B_X3_returned_60
  refine KV_bc (kv_F_X9_next.tr jv_rf) (fun _ _ => ?_)
  refine KV_if ?_ ?_
  · skip
    refine KV_ok ?_
    refine KV_bc (kv_F_X6_step.tr jv_rf) (fun _ _ => ?_)
    exact kv_B_X3_returned_147.tr jv_rf
  · skip
    refine KV_bc (kv_F_X9_here.tr jv_rf) (fun _ _ => ?_)
    refine KV_bt (kv_G_X8_expression.tr jv_rf) (fun _ _ => ?_)
    refine KV_bc (kv_F_X8_isTooWide.tr jv_rf) (fun _ _ => ?_)
    refine KV_if ?_ ?_
    · skip
      exact kv_B_X3_returned_115.tr jv_rf
    · skip
      refine KV_bt (kv_F_X9_refuse.tr jv_rf) (fun _ _ => ?_)
      exact kv_B_X3_returned_115.tr jv_rf
theorem kv_B_X3_returned_48 {N : Nat} {l1 : Int32} {l2 : Int32} {l3 : Nat} {s0 : Int32} {s1 : Int32} {u : CSt}  : KV (B_X3_returned_48 N l1 l2 l3 s0 s1 u) u := by
  unfold B_X3_returned_48
  refine KV_if ?_ ?_
  · skip
    exact kv_B_X3_returned_60.tr jv_rf
  · skip
    refine KV_bt (kv_F_X9_refuse.tr jv_rf) (fun _ _ => ?_)
    exact kv_B_X3_returned_60.tr jv_rf
theorem kv_B_X3_returned_18 {N : Nat} {l1 : Int32} {s0 : Int32} {u : CSt}  : KV (B_X3_returned_18 N l1 s0 u) u := by
  unfold B_X3_returned_18
  refine KV_ok ?_
  refine KV_bc (kv_F_X6_name.tr jv_rf) (fun _ _ => ?_)
  refine KV_ok ?_
  refine KV_if ?_ ?_
  · skip
    exact kv_B_X3_returned_48.tr jv_rf
  · skip
    exact kv_B_X3_returned_48.tr jv_rf
theorem kv_B_X3_returned_0 {N : Nat} {l1 : Int32} {u : CSt}  : KV (B_X3_returned_0 N l1 u) u := by
  unfold B_X3_returned_0
  refine KV_bc (kv_F_X9_typeAhead.tr jv_rf) (fun _ _ => ?_)
  refine KV_if ?_ ?_
  · skip
    exact kv_B_X3_returned_18.tr jv_rf
  · skip
    exact kv_B_X3_returned_18.tr jv_rf
theorem kv_F_X3_returned {N : Nat} {l1 : Int32} {u : CSt}  : KV (F_X3_returned N l1 u) u := by
  unfold F_X3_returned
  exact kv_B_X3_returned_0.tr jv_rf
theorem kv_B_X3_labels_90 {N : Nat} {R_2 : Int32 × CSt → Option ((Sum Nat Int32) × CSt)} {l1 : Int32} {l2 : Int64} {l4 : Int64} {u : CSt} (h_R_2 : ∀ a, KV (R_2 a) a.2) : KV (B_X3_labels_90 N R_2 l1 l2 l4 u) u := by
  unfold B_X3_labels_90
  refine KV_ok ?_
  refine KV_bc (kv_F_X6_label.tr jv_rf) (fun _ _ => ?_)
  exact (h_R_2 _).tr jv_rf
theorem kv_B_X3_labels_2 {N : Nat} {R_2 : Int32 × CSt → Option ((Sum Nat Int32) × CSt)} {l1 : Int32} {u : CSt} (h_R_2 : ∀ a, KV (R_2 a) a.2) : KV (B_X3_labels_2 N R_2 l1 u) u := by
  unfold B_X3_labels_2
  refine KV_if ?_ ?_
  · skip
    exact KV_some jv_rf
  · skip
    refine KV_bc (kv_F_X9_is.tr jv_rf) (fun _ _ => ?_)
    refine KV_if ?_ ?_
    · skip
      refine KV_bc (kv_F_X9_next.tr jv_rf) (fun _ _ => ?_)
      refine KV_bt (kv_F_X3_constant.tr jv_rf) (fun _ _ => ?_)
      refine KV_bc (kv_F_X9_is.tr jv_rf) (fun _ _ => ?_)
      refine KV_if ?_ ?_
      · skip
        exact (kv_B_X3_labels_90 h_R_2).tr jv_rf
      · skip
        refine KV_bc (kv_F_X9_next.tr jv_rf) (fun _ _ => ?_)
        refine KV_bc (kv_F_X9_here.tr jv_rf) (fun _ _ => ?_)
        refine KV_bt (kv_F_X3_constant.tr jv_rf) (fun _ _ => ?_)
        refine KV_if ?_ ?_
        · skip
          exact (kv_B_X3_labels_90 h_R_2).tr jv_rf
        · skip
          refine KV_bt (kv_F_X9_refuse.tr jv_rf) (fun _ _ => ?_)
          exact (kv_B_X3_labels_90 h_R_2).tr jv_rf
    · skip
      exact KV_some jv_rf
theorem kv_LP_X3_labels_2 {N : Nat}  (n : Nat) : ∀ a : Int32 × CSt, KV (LP_X3_labels_2 N n a) a.2 := by
  induction n with
  | zero => exact fun a r z e => by have e : (none : Option _) = some (r, z) := e; cases e
  | succ n ih =>
    intro a
    show KV (B_X3_labels_2 N (LP_X3_labels_2 N n) a.1 a.2) a.2
    exact kv_B_X3_labels_2 ih
theorem kv_B_X3_labels_0 {N : Nat} {u : CSt}  : KV (B_X3_labels_0 N u) u := by
  unfold B_X3_labels_0
  exact (kv_LP_X3_labels_2  _ _).tr jv_rf
theorem kv_F_X3_labels {N : Nat} {u : CSt}  : KV (F_X3_labels N u) u := by
  unfold F_X3_labels
  exact kv_B_X3_labels_0.tr jv_rf
theorem kv_B_X3_body_0 {N : Nat} {ro : Nat → Nat → Int32 → Int32 → CSt → Option (Sum Nat Int32 × CSt)} {u : CSt} (h_ro : ∀ q z a b u, KV (ro q z a b u) u) : KV (B_X3_body_0 N ro u) u := by
  unfold B_X3_body_0
  refine KV_bc (kv_F_X9_next.tr jv_rf) (fun _ _ => ?_)
  refine KV_bt ((h_ro _ _ _ _ _).tr jv_rf) (fun _ _ => ?_)
  exact KV_some jv_rf
theorem kv_F_X3_body {N : Nat} {ro : Nat → Nat → Int32 → Int32 → CSt → Option (Sum Nat Int32 × CSt)} {u : CSt} (h_ro : ∀ q z a b u, KV (ro q z a b u) u) : KV (F_X3_body N ro u) u := by
  unfold F_X3_body
  exact (kv_B_X3_body_0 h_ro).tr jv_rf
theorem kv_B_X3_statements_31 {N : Nat} {ro : Nat → Nat → Int32 → Int32 → CSt → Option (Sum Nat Int32 × CSt)} {u : CSt} (h_ro : ∀ q z a b u, KV (ro q z a b u) u) : KV (B_X3_statements_31 N ro u) u := by
  unfold B_X3_statements_31
  refine KV_bc (kv_F_X9_here.tr jv_rf) (fun _ _ => ?_)
  refine KV_bc (kv_F_X9_next.tr jv_rf) (fun _ _ => ?_)
  exact KV_some jv_rf
theorem kv_B_X3_statements_2 {N : Nat} {ro : Nat → Nat → Int32 → Int32 → CSt → Option (Sum Nat Int32 × CSt)} {R_2 : Int32 × CSt → Option ((Sum Nat Int32) × CSt)} {l1 : Int32} {u : CSt} (h_ro : ∀ q z a b u, KV (ro q z a b u) u) (h_R_2 : ∀ a, KV (R_2 a) a.2) : KV (B_X3_statements_2 N ro R_2 l1 u) u := by
  unfold B_X3_statements_2
  refine KV_if ?_ ?_
  · skip
    exact (kv_B_X3_statements_31 h_ro).tr jv_rf
  · skip
    refine KV_bc (kv_F_X9_is.tr jv_rf) (fun _ _ => ?_)
    refine KV_if ?_ ?_
    · skip
      refine KV_bt ((h_ro _ _ _ _ _).tr jv_rf) (fun _ _ => ?_)
      exact (h_R_2 _).tr jv_rf
    · skip
      exact (kv_B_X3_statements_31 h_ro).tr jv_rf
theorem kv_LP_X3_statements_2 {N : Nat} {ro : Nat → Nat → Int32 → Int32 → CSt → Option (Sum Nat Int32 × CSt)} (h_ro : ∀ q z a b u, KV (ro q z a b u) u) (n : Nat) : ∀ a : Int32 × CSt, KV (LP_X3_statements_2 N ro n a) a.2 := by
  induction n with
  | zero => exact fun a r z e => by have e : (none : Option _) = some (r, z) := e; cases e
  | succ n ih =>
    intro a
    show KV (B_X3_statements_2 N ro (LP_X3_statements_2 N ro n) a.1 a.2) a.2
    exact kv_B_X3_statements_2 h_ro ih
theorem kv_B_X3_statements_0 {N : Nat} {ro : Nat → Nat → Int32 → Int32 → CSt → Option (Sum Nat Int32 × CSt)} {u : CSt} (h_ro : ∀ q z a b u, KV (ro q z a b u) u) : KV (B_X3_statements_0 N ro u) u := by
  unfold B_X3_statements_0
  exact (kv_LP_X3_statements_2 h_ro _ _).tr jv_rf
theorem kv_F_X3_statements {N : Nat} {ro : Nat → Nat → Int32 → Int32 → CSt → Option (Sum Nat Int32 × CSt)} {u : CSt} (h_ro : ∀ q z a b u, KV (ro q z a b u) u) : KV (F_X3_statements N ro u) u := by
  unfold F_X3_statements
  exact (kv_B_X3_statements_0 h_ro).tr jv_rf
theorem kv_B_X3_statement_0 {N : Nat} {ro : Nat → Nat → Int32 → Int32 → CSt → Option (Sum Nat Int32 × CSt)} {u : CSt} (h_ro : ∀ q z a b u, KV (ro q z a b u) u) : KV (B_X3_statement_0 N ro u) u := by
  unfold B_X3_statement_0
  refine KV_bc (kv_F_X9_here.tr jv_rf) (fun _ _ => ?_)
  refine KV_ok ?_
  refine KV_bc (kv_F_X6_cost.tr jv_rf) (fun _ _ => ?_)
  refine KV_bc (kv_F_X9_type.tr jv_rf) (fun _ _ => ?_)
  refine KV_if ?_ ?_
  · skip
    refine KV_bt ((h_ro _ _ _ _ _).tr jv_rf) (fun _ _ => ?_)
    exact KV_some jv_rf
  · skip
    refine KV_if ?_ ?_
    · skip
      refine KV_bt ((h_ro _ _ _ _ _).tr jv_rf) (fun _ _ => ?_)
      exact KV_some jv_rf
    · skip
      refine KV_if ?_ ?_
      · skip
        refine KV_bt ((h_ro _ _ _ _ _).tr jv_rf) (fun _ _ => ?_)
        exact KV_some jv_rf
      · skip
        refine KV_if ?_ ?_
        · skip
          refine KV_bt ((h_ro _ _ _ _ _).tr jv_rf) (fun _ _ => ?_)
          exact KV_some jv_rf
        · skip
          refine KV_if ?_ ?_
          · skip
            refine KV_bt (kv_F_X3_leave.tr jv_rf) (fun _ _ => ?_)
            exact KV_some jv_rf
          · skip
            refine KV_if ?_ ?_
            · skip
              refine KV_bt (kv_F_X3_leave.tr jv_rf) (fun _ _ => ?_)
              exact KV_some jv_rf
            · skip
              refine KV_if ?_ ?_
              · skip
                refine KV_bt (kv_F_X3_returned.tr jv_rf) (fun _ _ => ?_)
                exact KV_some jv_rf
              · skip
                refine KV_if ?_ ?_
                · skip
                  refine KV_bc (kv_F_X9_next.tr jv_rf) (fun _ _ => ?_)
                  refine KV_bt (kv_G_X8_expression.tr jv_rf) (fun _ _ => ?_)
                  refine KV_ok ?_
                  refine KV_bc (kv_F_X6_step.tr jv_rf) (fun _ _ => ?_)
                  refine KV_bc (kv_F_X9_next.tr jv_rf) (fun _ _ => ?_)
                  exact KV_some jv_rf
                · skip
                  refine KV_bc (kv_F_X9_typeAhead.tr jv_rf) (fun _ _ => ?_)
                  refine KV_if ?_ ?_
                  · skip
                    refine KV_bt (kv_F_X3_instanceCall.tr jv_rf) (fun _ _ => ?_)
                    exact KV_some jv_rf
                  · skip
                    refine KV_bt (kv_F_X3_assignment.tr jv_rf) (fun _ _ => ?_)
                    exact KV_some jv_rf
theorem kv_F_X3_statement {N : Nat} {ro : Nat → Nat → Int32 → Int32 → CSt → Option (Sum Nat Int32 × CSt)} {u : CSt} (h_ro : ∀ q z a b u, KV (ro q z a b u) u) : KV (F_X3_statement N ro u) u := by
  unfold F_X3_statement
  exact (kv_B_X3_statement_0 h_ro).tr jv_rf
theorem kv_B_X3_choice_113 {N : Nat} {ro : Nat → Nat → Int32 → Int32 → CSt → Option (Sum Nat Int32 × CSt)} {l2 : Int32} {u : CSt} (h_ro : ∀ q z a b u, KV (ro q z a b u) u) : KV (B_X3_choice_113 N ro l2 u) u := by
  unfold B_X3_choice_113
  refine KV_ok ?_
  refine KV_bc (kv_F_X6_land.tr jv_rf) (fun _ _ => ?_)
  exact KV_some jv_rf
theorem kv_B_X3_choice_90 {N : Nat} {ro : Nat → Nat → Int32 → Int32 → CSt → Option (Sum Nat Int32 × CSt)} {l2 : Int32} {u : CSt} (h_ro : ∀ q z a b u, KV (ro q z a b u) u) : KV (B_X3_choice_90 N ro l2 u) u := by
  unfold B_X3_choice_90
  refine KV_bc (kv_F_X9_is.tr jv_rf) (fun _ _ => ?_)
  refine KV_if ?_ ?_
  · skip
    exact (kv_B_X3_choice_113 h_ro).tr jv_rf
  · skip
    refine KV_bc (kv_F_X9_next.tr jv_rf) (fun _ _ => ?_)
    refine KV_bt ((h_ro _ _ _ _ _).tr jv_rf) (fun _ _ => ?_)
    exact (kv_B_X3_choice_113 h_ro).tr jv_rf
theorem kv_B_X3_choice_7 {N : Nat} {ro : Nat → Nat → Int32 → Int32 → CSt → Option (Sum Nat Int32 × CSt)} {R_7 : Int32 × Int32 × Int32 × Int32 × CSt → Option ((Sum Nat Int32) × CSt)} {l1 : Int32} {l2 : Int32} {l3 : Int32} {l4 : Int32} {u : CSt} (h_ro : ∀ q z a b u, KV (ro q z a b u) u) (h_R_7 : ∀ a, KV (R_7 a) a.2.2.2.2) : KV (B_X3_choice_7 N ro R_7 l1 l2 l3 l4 u) u := by
  unfold B_X3_choice_7
  refine KV_if ?_ ?_
  · skip
    exact (kv_B_X3_choice_90 h_ro).tr jv_rf
  · skip
    refine KV_if ?_ ?_
    · skip
      exact (kv_B_X3_choice_90 h_ro).tr jv_rf
    · skip
      refine KV_bc (kv_F_X9_next.tr jv_rf) (fun _ _ => ?_)
      refine KV_bt (kv_G_X8_expression.tr jv_rf) (fun _ _ => ?_)
      refine KV_ok ?_
      refine KV_bc (kv_F_X6_step.tr jv_rf) (fun _ _ => ?_)
      refine KV_bt ((h_ro _ _ _ _ _).tr jv_rf) (fun _ _ => ?_)
      refine KV_ok ?_
      refine KV_bc (kv_F_X6_step.tr jv_rf) (fun _ _ => ?_)
      refine KV_ok ?_
      refine KV_bc (kv_F_X6_land.tr jv_rf) (fun _ _ => ?_)
      refine KV_bc (kv_F_X9_is.tr jv_rf) (fun _ _ => ?_)
      exact (h_R_7 _).tr jv_rf
theorem kv_LP_X3_choice_7 {N : Nat} {ro : Nat → Nat → Int32 → Int32 → CSt → Option (Sum Nat Int32 × CSt)} (h_ro : ∀ q z a b u, KV (ro q z a b u) u) (n : Nat) : ∀ a : Int32 × Int32 × Int32 × Int32 × CSt, KV (LP_X3_choice_7 N ro n a) a.2.2.2.2 := by
  induction n with
  | zero => exact fun a r z e => by have e : (none : Option _) = some (r, z) := e; cases e
  | succ n ih =>
    intro a
    show KV (B_X3_choice_7 N ro (LP_X3_choice_7 N ro n) a.1 a.2.1 a.2.2.1 a.2.2.2.1 a.2.2.2.2) a.2.2.2.2
    exact kv_B_X3_choice_7 h_ro ih
theorem kv_B_X3_choice_0 {N : Nat} {ro : Nat → Nat → Int32 → Int32 → CSt → Option (Sum Nat Int32 × CSt)} {l1 : Int32} {u : CSt} (h_ro : ∀ q z a b u, KV (ro q z a b u) u) : KV (B_X3_choice_0 N ro l1 u) u := by
  unfold B_X3_choice_0
  exact (kv_LP_X3_choice_7 h_ro _ _).tr jv_rf
theorem kv_F_X3_choice {N : Nat} {ro : Nat → Nat → Int32 → Int32 → CSt → Option (Sum Nat Int32 × CSt)} {l1 : Int32} {u : CSt} (h_ro : ∀ q z a b u, KV (ro q z a b u) u) : KV (F_X3_choice N ro l1 u) u := by
  unfold F_X3_choice
  exact (kv_B_X3_choice_0 h_ro).tr jv_rf
theorem kv_B_X3_loop_0 {N : Nat} {ro : Nat → Nat → Int32 → Int32 → CSt → Option (Sum Nat Int32 × CSt)} {l1 : Int32} {u : CSt} (h_ro : ∀ q z a b u, KV (ro q z a b u) u) : KV (B_X3_loop_0 N ro l1 u) u := by
  unfold B_X3_loop_0
  refine KV_bc (kv_F_X9_next.tr jv_rf) (fun _ _ => ?_)
  refine KV_ok ?_
  refine KV_bt (kv_G_X8_expression.tr jv_rf) (fun _ _ => ?_)
  refine KV_ok ?_
  refine KV_bc (kv_F_X6_step.tr jv_rf) (fun _ _ => ?_)
  refine KV_pc ?_
  refine KV_bt ((h_ro _ _ _ _ _).tr (fv_xI (by first | decide | (refine ⟨?_, ?_⟩ <;> omega)) jv_rf)) (fun _ _ => ?_)
  refine KV_ok ?_
  refine KV_bc (kv_F_X6_step.tr jv_rf) (fun _ _ => ?_)
  refine KV_ok ?_
  refine KV_bc (kv_F_X6_land.tr jv_rf) (fun _ _ => ?_)
  refine KV_pc ?_
  exact KV_some (fv_xI (by first | decide | (refine ⟨?_, ?_⟩ <;> omega)) jv_rf)
theorem kv_F_X3_loop {N : Nat} {ro : Nat → Nat → Int32 → Int32 → CSt → Option (Sum Nat Int32 × CSt)} {l1 : Int32} {u : CSt} (h_ro : ∀ q z a b u, KV (ro q z a b u) u) : KV (F_X3_loop N ro l1 u) u := by
  unfold F_X3_loop
  exact (kv_B_X3_loop_0 h_ro).tr jv_rf
theorem kv_B_X3_round_0 {N : Nat} {ro : Nat → Nat → Int32 → Int32 → CSt → Option (Sum Nat Int32 × CSt)} {l1 : Int32} {u : CSt} (h_ro : ∀ q z a b u, KV (ro q z a b u) u) : KV (B_X3_round_0 N ro l1 u) u := by
  unfold B_X3_round_0
  refine KV_pc ?_
  refine KV_pc ?_
  refine KV_ok ?_
  refine KV_bc (kv_F_X6_cost.tr (fv_xI (by first | decide | (refine ⟨?_, ?_⟩ <;> omega)) (fv_xI (by first | decide | (refine ⟨?_, ?_⟩ <;> omega)) jv_rf))) (fun _ _ => ?_)
  refine KV_bt ((h_ro _ _ _ _ _).tr jv_rf) (fun _ _ => ?_)
  refine KV_pc ?_
  refine KV_ok ?_
  refine KV_bc (kv_F_X6_land.tr (fv_xI (by first | decide | (refine ⟨?_, ?_⟩ <;> omega)) jv_rf)) (fun _ _ => ?_)
  refine KV_pc ?_
  exact KV_some (fv_xI (by first | decide | (refine ⟨?_, ?_⟩ <;> omega)) jv_rf)
theorem kv_F_X3_round {N : Nat} {ro : Nat → Nat → Int32 → Int32 → CSt → Option (Sum Nat Int32 × CSt)} {l1 : Int32} {u : CSt} (h_ro : ∀ q z a b u, KV (ro q z a b u) u) : KV (F_X3_round N ro l1 u) u := by
  unfold F_X3_round
  exact (kv_B_X3_round_0 h_ro).tr jv_rf
theorem kv_B_X3_counted_71 {N : Nat} {ro : Nat → Nat → Int32 → Int32 → CSt → Option (Sum Nat Int32 × CSt)} {l1 : Int32} {l2 : Int32} {l3 : Nat} {u : CSt} (h_ro : ∀ q z a b u, KV (ro q z a b u) u) : KV (B_X3_counted_71 N ro l1 l2 l3 u) u := by
  unfold B_X3_counted_71
  refine KV_bc (kv_F_X9_next.tr jv_rf) (fun _ _ => ?_)
  refine KV_bt (kv_F_X3_setPlain.tr jv_rf) (fun _ _ => ?_)
  refine KV_bc (kv_F_X8_set.tr jv_rf) (fun _ _ => ?_)
  refine KV_bc (kv_F_X9_next.tr jv_rf) (fun _ _ => ?_)
  refine KV_bt (kv_G_X8_expression.tr jv_rf) (fun _ _ => ?_)
  refine KV_ok ?_
  refine KV_bc (kv_F_X8_get.tr jv_rf) (fun _ _ => ?_)
  refine KV_ok ?_
  refine KV_bc (kv_F_X6_step.tr jv_rf) (fun _ _ => ?_)
  refine KV_pc ?_
  refine KV_bt ((h_ro _ _ _ _ _).tr (fv_xI (by first | decide | (refine ⟨?_, ?_⟩ <;> omega)) jv_rf)) (fun _ _ => ?_)
  refine KV_bc (kv_F_X8_get.tr jv_rf) (fun _ _ => ?_)
  refine KV_ok ?_
  refine KV_bc (kv_F_X6_step.tr jv_rf) (fun _ _ => ?_)
  refine KV_pc ?_
  refine KV_bc (kv_F_X8_get.tr (fv_xI (by first | decide | (refine ⟨?_, ?_⟩ <;> omega)) jv_rf)) (fun _ _ => ?_)
  refine KV_ok ?_
  refine KV_bc (kv_F_X6_constant.tr jv_rf) (fun _ _ => ?_)
  refine KV_bc (kv_F_X8_combine.tr jv_rf) (fun _ _ => ?_)
  refine KV_bc (kv_F_X8_set.tr jv_rf) (fun _ _ => ?_)
  refine KV_ok ?_
  refine KV_bc (kv_F_X6_step.tr jv_rf) (fun _ _ => ?_)
  refine KV_ok ?_
  refine KV_bc (kv_F_X6_land.tr jv_rf) (fun _ _ => ?_)
  refine KV_pc ?_
  refine KV_ok ?_
  refine KV_bc (kv_F_X6_step.tr (fv_xI (by first | decide | (refine ⟨?_, ?_⟩ <;> omega)) jv_rf)) (fun _ _ => ?_)
  exact KV_some jv_rf
theorem kv_B_X3_counted_62 {N : Nat} {ro : Nat → Nat → Int32 → Int32 → CSt → Option (Sum Nat Int32 × CSt)} {l1 : Int32} {l2 : Int32} {l3 : Nat} {u : CSt} (h_ro : ∀ q z a b u, KV (ro q z a b u) u) : KV (B_X3_counted_62 N ro l1 l2 l3 u) u := by
  unfold B_X3_counted_62
  refine KV_bt (kv_F_X9_refuse.tr jv_rf) (fun _ _ => ?_)
  exact (kv_B_X3_counted_71 h_ro).tr jv_rf
theorem kv_B_X3_counted_41 {N : Nat} {ro : Nat → Nat → Int32 → Int32 → CSt → Option (Sum Nat Int32 × CSt)} {l1 : Int32} {l2 : Int32} {l3 : Nat} {u : CSt} (h_ro : ∀ q z a b u, KV (ro q z a b u) u) : KV (B_X3_counted_41 N ro l1 l2 l3 u) u := by
  unfold B_X3_counted_41
  refine KV_bc (kv_F_X4_hasNumbers.tr jv_rf) (fun _ _ => ?_)
  refine KV_if ?_ ?_
  · skip
    exact (kv_B_X3_counted_62 h_ro).tr jv_rf
  · skip
    refine KV_if ?_ ?_
    · skip
      refine KV_bc (kv_F_X4_isInput.tr jv_rf) (fun _ _ => ?_)
      refine KV_if ?_ ?_
      · skip
        exact (kv_B_X3_counted_71 h_ro).tr jv_rf
      · skip
        exact (kv_B_X3_counted_62 h_ro).tr jv_rf
    · skip
      exact (kv_B_X3_counted_62 h_ro).tr jv_rf
theorem kv_B_X3_counted_0 {N : Nat} {ro : Nat → Nat → Int32 → Int32 → CSt → Option (Sum Nat Int32 × CSt)} {l1 : Int32} {u : CSt} (h_ro : ∀ q z a b u, KV (ro q z a b u) u) : KV (B_X3_counted_0 N ro l1 u) u := by
  unfold B_X3_counted_0
  refine KV_bc (kv_F_X9_next.tr jv_rf) (fun _ _ => ?_)
  refine KV_bc (kv_F_X9_here.tr jv_rf) (fun _ _ => ?_)
  refine KV_bc (kv_F_X8_known.tr jv_rf) (fun _ _ => ?_)
  refine KV_ok ?_
  refine KV_if ?_ ?_
  · skip
    refine KV_bt (kv_F_X9_refuse.tr jv_rf) (fun _ _ => ?_)
    exact (kv_B_X3_counted_41 h_ro).tr jv_rf
  · skip
    exact (kv_B_X3_counted_41 h_ro).tr jv_rf
theorem kv_F_X3_counted {N : Nat} {ro : Nat → Nat → Int32 → Int32 → CSt → Option (Sum Nat Int32 × CSt)} {l1 : Int32} {u : CSt} (h_ro : ∀ q z a b u, KV (ro q z a b u) u) : KV (F_X3_counted N ro l1 u) u := by
  unfold F_X3_counted
  exact (kv_B_X3_counted_0 h_ro).tr jv_rf
theorem kv_B_X3_cases_176 {N : Nat} {ro : Nat → Nat → Int32 → Int32 → CSt → Option (Sum Nat Int32 × CSt)} {l2 : Int32} {u : CSt} (h_ro : ∀ q z a b u, KV (ro q z a b u) u) : KV (B_X3_cases_176 N ro l2 u) u := by
  unfold B_X3_cases_176
  refine KV_bc (kv_F_X9_next.tr jv_rf) (fun _ _ => ?_)
  refine KV_ok ?_
  refine KV_bc (kv_F_X6_land.tr jv_rf) (fun _ _ => ?_)
  exact KV_some jv_rf
theorem kv_B_X3_cases_140 {N : Nat} {ro : Nat → Nat → Int32 → Int32 → CSt → Option (Sum Nat Int32 × CSt)} {l1 : Int32} {l2 : Int32} {u : CSt} (h_ro : ∀ q z a b u, KV (ro q z a b u) u) : KV (B_X3_cases_140 N ro l1 l2 u) u := by
  unfold B_X3_cases_140
  refine KV_ok ?_
  refine KV_bc (kv_F_X6_step.tr jv_rf) (fun _ _ => ?_)
  refine KV_bc (kv_F_X9_is.tr jv_rf) (fun _ _ => ?_)
  refine KV_if ?_ ?_
  · skip
    exact (kv_B_X3_cases_176 h_ro).tr jv_rf
  · skip
    refine KV_bc (kv_F_X9_next.tr jv_rf) (fun _ _ => ?_)
    refine KV_bt ((h_ro _ _ _ _ _).tr jv_rf) (fun _ _ => ?_)
    exact (kv_B_X3_cases_176 h_ro).tr jv_rf
theorem kv_B_X3_cases_26 {N : Nat} {ro : Nat → Nat → Int32 → Int32 → CSt → Option (Sum Nat Int32 × CSt)} {R_26 : Int32 × Int32 × Int32 × CSt → Option ((Sum Nat Int32) × CSt)} {l1 : Int32} {l2 : Int32} {l3 : Int32} {u : CSt} (h_ro : ∀ q z a b u, KV (ro q z a b u) u) (h_R_26 : ∀ a, KV (R_26 a) a.2.2.2) : KV (B_X3_cases_26 N ro R_26 l1 l2 l3 u) u := by
  unfold B_X3_cases_26
  refine KV_if ?_ ?_
  · skip
    exact (kv_B_X3_cases_140 h_ro).tr jv_rf
  · skip
    refine KV_bc (kv_F_X9_is.tr jv_rf) (fun _ _ => ?_)
    refine KV_if ?_ ?_
    · skip
      exact (kv_B_X3_cases_140 h_ro).tr jv_rf
    · skip
      refine KV_ok ?_
      refine KV_bt (kv_F_X3_labels.tr jv_rf) (fun _ _ => ?_)
      refine KV_ok ?_
      refine KV_bc (kv_F_X6_step.tr jv_rf) (fun _ _ => ?_)
      refine KV_ok ?_
      refine KV_bc (kv_F_X6_step.tr jv_rf) (fun _ _ => ?_)
      refine KV_ok ?_
      refine KV_bc (kv_F_X6_step.tr jv_rf) (fun _ _ => ?_)
      refine KV_bt ((h_ro _ _ _ _ _).tr jv_rf) (fun _ _ => ?_)
      refine KV_ok ?_
      refine KV_bc (kv_F_X6_step.tr jv_rf) (fun _ _ => ?_)
      refine KV_ok ?_
      refine KV_bc (kv_F_X6_land.tr jv_rf) (fun _ _ => ?_)
      exact (h_R_26 _).tr jv_rf
theorem kv_LP_X3_cases_26 {N : Nat} {ro : Nat → Nat → Int32 → Int32 → CSt → Option (Sum Nat Int32 × CSt)} (h_ro : ∀ q z a b u, KV (ro q z a b u) u) (n : Nat) : ∀ a : Int32 × Int32 × Int32 × CSt, KV (LP_X3_cases_26 N ro n a) a.2.2.2 := by
  induction n with
  | zero => exact fun a r z e => by have e : (none : Option _) = some (r, z) := e; cases e
  | succ n ih =>
    intro a
    show KV (B_X3_cases_26 N ro (LP_X3_cases_26 N ro n) a.1 a.2.1 a.2.2.1 a.2.2.2) a.2.2.2
    exact kv_B_X3_cases_26 h_ro ih
theorem kv_B_X3_cases_0 {N : Nat} {ro : Nat → Nat → Int32 → Int32 → CSt → Option (Sum Nat Int32 × CSt)} {l1 : Int32} {u : CSt} (h_ro : ∀ q z a b u, KV (ro q z a b u) u) : KV (B_X3_cases_0 N ro l1 u) u := by
  unfold B_X3_cases_0
  refine KV_bc (kv_F_X9_next.tr jv_rf) (fun _ _ => ?_)
  refine KV_bt (kv_G_X8_expression.tr jv_rf) (fun _ _ => ?_)
  refine KV_bc (kv_F_X9_next.tr jv_rf) (fun _ _ => ?_)
  exact (kv_LP_X3_cases_26 h_ro _ _).tr jv_rf
theorem kv_F_X3_cases {N : Nat} {ro : Nat → Nat → Int32 → Int32 → CSt → Option (Sum Nat Int32 × CSt)} {l1 : Int32} {u : CSt} (h_ro : ∀ q z a b u, KV (ro q z a b u) u) : KV (F_X3_cases N ro l1 u) u := by
  unfold F_X3_cases
  exact (kv_B_X3_cases_0 h_ro).tr jv_rf
theorem kv_FMS_ {N : Nat} : ∀ (d q z : Nat) (a b : Int32) (u : CSt), KV (FMS_ N d q z a b u) u := by
  intro d
  induction d with
  | zero => exact fun q z a b u => KV_none
  | succ d ih =>
    intro q z a b u
    show KV (if q = 0 then F_X3_body N (FMS_ N d) u else if q = 1 then F_X3_statements N (FMS_ N d) u else if q = 2 then F_X3_statement N (FMS_ N d) u else if q = 3 then F_X3_choice N (FMS_ N d) a u else if q = 4 then F_X3_loop N (FMS_ N d) a u else if q = 5 then F_X3_round N (FMS_ N d) a u else if q = 6 then F_X3_counted N (FMS_ N d) a u else if q = 7 then F_X3_cases N (FMS_ N d) a u else none) u
    refine KV_if (kv_F_X3_body ih) ?_
    refine KV_if (kv_F_X3_statements ih) ?_
    refine KV_if (kv_F_X3_statement ih) ?_
    refine KV_if (kv_F_X3_choice ih) ?_
    refine KV_if (kv_F_X3_loop ih) ?_
    refine KV_if (kv_F_X3_round ih) ?_
    refine KV_if (kv_F_X3_counted ih) ?_
    refine KV_if (kv_F_X3_cases ih) ?_
    exact KV_none
theorem kv_G_X3_statements {N : Nat} {u : CSt} : KV (G_X3_statements N u) u := kv_FMS_ _ _ _ _ _ _
theorem kv_B_X3_routine_118 {N : Nat} {l1 : Int32} {l2 : Int32} {l3 : Nat} {u : CSt}  : KV (B_X3_routine_118 N l1 l2 l3 u) u := by
  unfold B_X3_routine_118
  refine KV_ok ?_
  refine KV_pc ?_
  refine KV_bt (kv_G_X3_statements.tr (fv_xmI jv_rf)) (fun _ _ => ?_)
  refine KV_if ?_ ?_
  · skip
    refine KV_ok ?_
    refine KV_bc (kv_F_X6_constant.tr jv_rf) (fun _ _ => ?_)
    refine KV_ok ?_
    refine KV_bc (kv_F_X6_step.tr jv_rf) (fun _ _ => ?_)
    refine KV_ok ?_
    refine KV_pc ?_
    exact KV_some (fv_xpI jv_rf)
  · skip
    refine KV_ok ?_
    refine KV_bc (kv_F_X6_step.tr jv_rf) (fun _ _ => ?_)
    refine KV_ok ?_
    refine KV_pc ?_
    exact KV_some (fv_xpI jv_rf)
theorem kv_B_X3_routine_79 {N : Nat} {R_79 : Int32 × Int32 × Nat × Int32 × CSt → Option ((Sum Nat Int32) × CSt)} {l1 : Int32} {l2 : Int32} {l3 : Nat} {l4 : Int32} {u : CSt} (h_R_79 : ∀ a, KV (R_79 a) a.2.2.2.2) : KV (B_X3_routine_79 N R_79 l1 l2 l3 l4 u) u := by
  unfold B_X3_routine_79
  refine KV_if ?_ ?_
  · skip
    exact kv_B_X3_routine_118.tr jv_rf
  · skip
    refine KV_bc (kv_F_X9_is.tr jv_rf) (fun _ _ => ?_)
    refine KV_if ?_ ?_
    · skip
      exact kv_B_X3_routine_118.tr jv_rf
    · skip
      refine KV_bc (kv_F_X9_next.tr jv_rf) (fun _ _ => ?_)
      refine KV_bt (kv_F_X3_variables.tr jv_rf) (fun _ _ => ?_)
      exact (h_R_79 _).tr jv_rf
theorem kv_LP_X3_routine_79 {N : Nat}  (n : Nat) : ∀ a : Int32 × Int32 × Nat × Int32 × CSt, KV (LP_X3_routine_79 N n a) a.2.2.2.2 := by
  induction n with
  | zero => exact fun a r z e => by have e : (none : Option _) = some (r, z) := e; cases e
  | succ n ih =>
    intro a
    show KV (B_X3_routine_79 N (LP_X3_routine_79 N n) a.1 a.2.1 a.2.2.1 a.2.2.2.1 a.2.2.2.2) a.2.2.2.2
    exact kv_B_X3_routine_79 ih
theorem kv_B_X3_routine_62 {N : Nat} {l1 : Int32} {l2 : Int32} {l3 : Nat} {u : CSt}  : KV (B_X3_routine_62 N l1 l2 l3 u) u := by
  unfold B_X3_routine_62
  refine KV_bc (kv_F_X9_next.tr jv_rf) (fun _ _ => ?_)
  refine KV_bc (kv_F_X9_next.tr jv_rf) (fun _ _ => ?_)
  exact (kv_LP_X3_routine_79  _ _).tr jv_rf
theorem kv_B_X3_routine_32 {N : Nat} {R_32 : Int32 × Int32 × Nat × Int32 × CSt → Option ((Sum Nat Int32) × CSt)} {l1 : Int32} {l2 : Int32} {l3 : Nat} {l4 : Int32} {u : CSt} (h_R_32 : ∀ a, KV (R_32 a) a.2.2.2.2) : KV (B_X3_routine_32 N R_32 l1 l2 l3 l4 u) u := by
  unfold B_X3_routine_32
  refine KV_if ?_ ?_
  · skip
    exact kv_B_X3_routine_62.tr jv_rf
  · skip
    refine KV_bc (kv_F_X9_is.tr jv_rf) (fun _ _ => ?_)
    refine KV_if ?_ ?_
    · skip
      refine KV_bt (kv_F_X3_parameter.tr jv_rf) (fun _ _ => ?_)
      exact (h_R_32 _).tr jv_rf
    · skip
      exact kv_B_X3_routine_62.tr jv_rf
theorem kv_LP_X3_routine_32 {N : Nat}  (n : Nat) : ∀ a : Int32 × Int32 × Nat × Int32 × CSt, KV (LP_X3_routine_32 N n a) a.2.2.2.2 := by
  induction n with
  | zero => exact fun a r z e => by have e : (none : Option _) = some (r, z) := e; cases e
  | succ n ih =>
    intro a
    show KV (B_X3_routine_32 N (LP_X3_routine_32 N n) a.1 a.2.1 a.2.2.1 a.2.2.2.1 a.2.2.2.2) a.2.2.2.2
    exact kv_B_X3_routine_32 ih
theorem kv_B_X3_routine_0 {N : Nat} {l1 : Int32} {l2 : Int32} {u : CSt}  : KV (B_X3_routine_0 N l1 l2 u) u := by
  unfold B_X3_routine_0
  refine KV_bt (kv_F_X3_newName.tr jv_rf) (fun _ _ => ?_)
  refine KV_ok ?_
  refine KV_pc ?_
  refine KV_ok ?_
  refine KV_pc ?_
  refine KV_bc (kv_F_X9_next.tr (fv_xpI (fv_xmI jv_rf))) (fun _ _ => ?_)
  exact (kv_LP_X3_routine_32  _ _).tr jv_rf
theorem kv_F_X3_routine {N : Nat} {l1 : Int32} {l2 : Int32} {u : CSt}  : KV (F_X3_routine N l1 l2 u) u := by
  unfold F_X3_routine
  exact kv_B_X3_routine_0.tr jv_rf
theorem kv_B_X3_cyclic_94 {N : Nat} {u : CSt}  : KV (B_X3_cyclic_94 N u) u := by
  unfold B_X3_cyclic_94
  refine KV_bc (kv_F_X9_next.tr jv_rf) (fun _ _ => ?_)
  refine KV_ok ?_
  refine KV_bt (kv_G_X3_statements.tr jv_rf) (fun _ _ => ?_)
  refine KV_bc (kv_F_X6_step.tr jv_rf) (fun _ _ => ?_)
  exact KV_some jv_rf
theorem kv_B_X3_cyclic_61 {N : Nat} {l1 : Nat} {l2 : Int32} {l3 : Int32} {u : CSt}  : KV (B_X3_cyclic_61 N l1 l2 l3 u) u := by
  unfold B_X3_cyclic_61
  refine KV_if ?_ ?_
  · skip
    exact kv_B_X3_cyclic_94.tr jv_rf
  · skip
    refine KV_ok ?_
    refine KV_ix (fun _ => ?_)
    refine KV_bc (kv_F_X7_become.tr jv_rf) (fun _ _ => ?_)
    exact kv_B_X3_cyclic_94.tr jv_rf
theorem kv_B_X3_cyclic_0 {N : Nat} {u : CSt}  : KV (B_X3_cyclic_0 N u) u := by
  unfold B_X3_cyclic_0
  refine KV_bt (kv_F_X3_newName.tr jv_rf) (fun _ _ => ?_)
  refine KV_ok ?_
  refine KV_bc (kv_F_X9_next.tr jv_rf) (fun _ _ => ?_)
  refine KV_bt (kv_F_X9_takeBounded.tr jv_rf) (fun _ _ => ?_)
  refine KV_bc (kv_F_X9_is.tr jv_rf) (fun _ _ => ?_)
  refine KV_if ?_ ?_
  · skip
    exact kv_B_X3_cyclic_61.tr jv_rf
  · skip
    refine KV_bc (kv_F_X9_next.tr jv_rf) (fun _ _ => ?_)
    refine KV_bt (kv_F_X9_takeBounded.tr jv_rf) (fun _ _ => ?_)
    exact kv_B_X3_cyclic_61.tr jv_rf
theorem kv_F_X3_cyclic {N : Nat} {u : CSt}  : KV (F_X3_cyclic N u) u := by
  unfold F_X3_cyclic
  exact kv_B_X3_cyclic_0.tr jv_rf
theorem kv_B_X3_make_205 {N : Nat} {R_57 : Int32 × CSt → Option ((Sum Nat Int32) × CSt)} {l2 : Int32} {u : CSt} (h_R_57 : ∀ a, KV (R_57 a) a.2) : KV (B_X3_make_205 N R_57 l2 u) u := by
  unfold B_X3_make_205
  exact (h_R_57 _).tr jv_rf
theorem kv_B_X3_make_57 {N : Nat} {R_57 : Int32 × CSt → Option ((Sum Nat Int32) × CSt)} {l2 : Int32} {u : CSt} (h_R_57 : ∀ a, KV (R_57 a) a.2) : KV (B_X3_make_57 N R_57 l2 u) u := by
  unfold B_X3_make_57
  refine KV_if ?_ ?_
  · skip
    exact KV_some jv_rf
  · skip
    refine KV_bc (kv_F_X9_is.tr jv_rf) (fun _ _ => ?_)
    refine KV_if ?_ ?_
    · skip
      refine KV_bc (kv_F_X9_type.tr jv_rf) (fun _ _ => ?_)
      refine KV_bc (kv_F_X9_next.tr jv_rf) (fun _ _ => ?_)
      refine KV_if ?_ ?_
      · skip
        refine KV_bt (kv_F_X3_variables.tr jv_rf) (fun _ _ => ?_)
        exact (kv_B_X3_make_205 h_R_57).tr jv_rf
      · skip
        refine KV_if ?_ ?_
        · skip
          refine KV_bt (kv_F_X3_variables.tr jv_rf) (fun _ _ => ?_)
          exact (kv_B_X3_make_205 h_R_57).tr jv_rf
        · skip
          refine KV_if ?_ ?_
          · skip
            refine KV_bt (kv_F_X3_placed.tr jv_rf) (fun _ _ => ?_)
            exact (kv_B_X3_make_205 h_R_57).tr jv_rf
          · skip
            refine KV_if ?_ ?_
            · skip
              refine KV_bt (kv_F_X3_placed.tr jv_rf) (fun _ _ => ?_)
              exact (kv_B_X3_make_205 h_R_57).tr jv_rf
            · skip
              refine KV_if ?_ ?_
              · skip
                refine KV_bt (kv_F_X3_routine.tr jv_rf) (fun _ _ => ?_)
                exact (kv_B_X3_make_205 h_R_57).tr jv_rf
              · skip
                refine KV_if ?_ ?_
                · skip
                  refine KV_bt (kv_F_X3_uses.tr jv_rf) (fun _ _ => ?_)
                  exact (kv_B_X3_make_205 h_R_57).tr jv_rf
                · skip
                  refine KV_if ?_ ?_
                  · skip
                    refine KV_bc (kv_F_X9_takeKind.tr jv_rf) (fun _ _ => ?_)
                    refine KV_bt (kv_F_X3_routine.tr jv_rf) (fun _ _ => ?_)
                    exact (kv_B_X3_make_205 h_R_57).tr jv_rf
                  · skip
                    refine KV_bt (kv_F_X3_cyclic.tr jv_rf) (fun _ _ => ?_)
                    exact (kv_B_X3_make_205 h_R_57).tr jv_rf
    · skip
      exact KV_some jv_rf
theorem kv_LP_X3_make_57 {N : Nat}  (n : Nat) : ∀ a : Int32 × CSt, KV (LP_X3_make_57 N n a) a.2 := by
  induction n with
  | zero => exact fun a r z e => by have e : (none : Option _) = some (r, z) := e; cases e
  | succ n ih =>
    intro a
    show KV (B_X3_make_57 N (LP_X3_make_57 N n) a.1 a.2) a.2
    exact kv_B_X3_make_57 ih
theorem kv_B_X3_make_0 {N : Nat} {l1 : Nat} {u : CSt}  : KV (B_X3_make_0 N l1 u) u := by
  unfold B_X3_make_0
  refine KV_pc ?_
  refine KV_ok ?_
  refine KV_bc (kv_F_X6_empty.tr (fv_xR jv_rf)) (fun _ _ => ?_)
  refine KV_bc (kv_F_X8_begin.tr jv_rf) (fun _ _ => ?_)
  refine KV_pc ?_
  refine KV_pc ?_
  refine KV_pc ?_
  refine KV_pc ?_
  refine KV_pc ?_
  refine KV_bc (kv_F_X9_rewind.tr (fv_xI (by first | decide | (refine ⟨?_, ?_⟩ <;> omega)) (fv_xI (by first | decide | (refine ⟨?_, ?_⟩ <;> omega)) (fv_xI (by first | decide | (refine ⟨?_, ?_⟩ <;> omega)) (fv_xI (by first | decide | (refine ⟨?_, ?_⟩ <;> omega)) (fv_xF (by first | decide | (refine ⟨?_, ?_⟩ <;> omega)) jv_rf)))))) (fun _ _ => ?_)
  exact (kv_LP_X3_make_57  _ _).tr jv_rf
theorem kv_F_X3_make {N : Nat} {l1 : Nat} {u : CSt}  : KV (F_X3_make N l1 u) u := by
  unfold F_X3_make
  exact kv_B_X3_make_0.tr jv_rf
theorem kv_B_X11_append_3 {N : Nat} {R_3 : Int32 × Int32 × CSt → Option (Int32 × CSt)} {l1 : Int32} {l2 : Int32} {u : CSt} (h_R_3 : ∀ a, KV (R_3 a) a.2.2) : KV (B_X11_append_3 N R_3 l1 l2 u) u := by
  unfold B_X11_append_3
  refine KV_if ?_ ?_
  · skip
    exact KV_some jv_rf
  · skip
    refine KV_if ?_ ?_
    · skip
      exact KV_some jv_rf
    · skip
      refine KV_wc ?_
      refine KV_pc ?_
      exact (h_R_3 _).tr (fv_xI (by first | decide | (refine ⟨?_, ?_⟩ <;> omega)) (fv_xA (by first | decide | (refine ⟨?_, ?_⟩ <;> omega)) jv_rf))
theorem kv_LP_X11_append_3 {N : Nat}  (n : Nat) : ∀ a : Int32 × Int32 × CSt, KV (LP_X11_append_3 N n a) a.2.2 := by
  induction n with
  | zero => exact fun a r z e => by have e : (none : Option _) = some (r, z) := e; cases e
  | succ n ih =>
    intro a
    show KV (B_X11_append_3 N (LP_X11_append_3 N n) a.1 a.2.1 a.2.2) a.2.2
    exact kv_B_X11_append_3 ih
theorem kv_B_X11_append_0 {N : Nat} {l1 : Int32} {u : CSt}  : KV (B_X11_append_0 N l1 u) u := by
  unfold B_X11_append_0
  exact (kv_LP_X11_append_3  _ _).tr jv_rf
theorem kv_F_X11_append {N : Nat} {l1 : Int32} {u : CSt}  : KV (F_X11_append N l1 u) u := by
  unfold F_X11_append
  exact kv_B_X11_append_0.tr jv_rf
theorem kv_B_X11_feed_0 {N : Nat} {l1 : Int32} {l2 : Int32} {l3 : Int32} {l4 : Int32} {l5 : Int32} {u : CSt}  : KV (B_X11_feed_0 N l1 l2 l3 l4 l5 u) u := by
  unfold B_X11_feed_0
  refine KV_if ?_ ?_
  · skip
    refine KV_bc (kv_F_X11_append.tr jv_rf) (fun _ _ => ?_)
    refine KV_bc (kv_F_X11_append.tr jv_rf) (fun _ _ => ?_)
    refine KV_bc (kv_F_X11_append.tr jv_rf) (fun _ _ => ?_)
    refine KV_bc (kv_F_X11_append.tr jv_rf) (fun _ _ => ?_)
    refine KV_bc (kv_F_X11_append.tr jv_rf) (fun _ _ => ?_)
    exact KV_some jv_rf
  · skip
    exact KV_some jv_rf
theorem kv_F_X11_feed {N : Nat} {l1 : Int32} {l2 : Int32} {l3 : Int32} {l4 : Int32} {l5 : Int32} {u : CSt}  : KV (F_X11_feed N l1 l2 l3 l4 l5 u) u := by
  unfold F_X11_feed
  exact kv_B_X11_feed_0.tr jv_rf
theorem kv_B_X11_end_0 {N : Nat} {l1 : Int32} {u : CSt}  : KV (B_X11_end_0 N l1 u) u := by
  unfold B_X11_end_0
  refine KV_if ?_ ?_
  · skip
    exact KV_some jv_rf
  · skip
    refine KV_if ?_ ?_
    · skip
      refine KV_pc ?_
      exact KV_some (fv_xI (by first | decide | (refine ⟨?_, ?_⟩ <;> omega)) jv_rf)
    · skip
      exact KV_some jv_rf
theorem kv_F_X11_end {N : Nat} {l1 : Int32} {u : CSt}  : KV (F_X11_end N l1 u) u := by
  unfold F_X11_end
  exact kv_B_X11_end_0.tr jv_rf
theorem kv_B_X11_place_0 {N : Nat} {u : CSt}  : KV (B_X11_place_0 N u) u := by
  unfold B_X11_place_0
  exact KV_some jv_rf
theorem kv_F_X11_place {N : Nat} {u : CSt}  : KV (F_X11_place N u) u := by
  unfold F_X11_place
  exact kv_B_X11_place_0.tr jv_rf
theorem kv_B_X11_hasPlace_0 {N : Nat} {l1 : Int32} {l2 : Int32} {u : CSt}  : KV (B_X11_hasPlace_0 N l1 l2 u) u := by
  unfold B_X11_hasPlace_0
  refine KV_ok ?_
  refine KV_bc (kv_F_X6_has.tr jv_rf) (fun _ _ => ?_)
  refine KV_if ?_ ?_
  · skip
    exact KV_some jv_rf
  · skip
    refine KV_if ?_ ?_
    · skip
      exact KV_some jv_rf
    · skip
      refine KV_ok ?_
      refine KV_bc (kv_F_X6_nth.tr jv_rf) (fun _ _ => ?_)
      refine KV_ok ?_
      refine KV_if ?_ ?_
      · skip
        exact KV_some jv_rf
      · skip
        exact KV_some jv_rf
theorem kv_F_X11_hasPlace {N : Nat} {l1 : Int32} {l2 : Int32} {u : CSt}  : KV (F_X11_hasPlace N l1 l2 u) u := by
  unfold F_X11_hasPlace
  exact kv_B_X11_hasPlace_0.tr jv_rf
theorem kv_B_X11_runTick_89 {N : Nat} {R_11 : Int32 × Int32 × CSt → Option (Int32 × CSt)} {l1 : Int32} {l2 : Int32} {u : CSt} (h_R_11 : ∀ a, KV (R_11 a) a.2.2) : KV (B_X11_runTick_89 N R_11 l1 l2 u) u := by
  unfold B_X11_runTick_89
  exact (h_R_11 _).tr jv_rf
theorem kv_B_X11_runTick_104 {N : Nat} {R_104 : Int32 × Int32 × CSt → Option (Int32 × CSt)} {l1 : Int32} {l2 : Int32} {u : CSt} (h_R_104 : ∀ a, KV (R_104 a) a.2.2) : KV (B_X11_runTick_104 N R_104 l1 l2 u) u := by
  unfold B_X11_runTick_104
  refine KV_if ?_ ?_
  · skip
    refine KV_pc ?_
    exact KV_some (fv_xI (by first | decide | (refine ⟨?_, ?_⟩ <;> omega)) jv_rf)
  · skip
    refine KV_ok ?_
    refine KV_rd (fun _ => ?_)
    refine KV_bc (kv_F_X6_nth.tr jv_rf) (fun _ _ => ?_)
    refine KV_ok ?_
    refine KV_rd (fun _ => ?_)
    refine KV_bc (kv_F_X2_numberOf.tr jv_rf) (fun _ _ => ?_)
    refine KV_bc (kv_F_X10_see.tr jv_rf) (fun _ _ => ?_)
    exact (h_R_104 _).tr jv_rf
theorem kv_LP_X11_runTick_104 {N : Nat}  (n : Nat) : ∀ a : Int32 × Int32 × CSt, KV (LP_X11_runTick_104 N n a) a.2.2 := by
  induction n with
  | zero => exact fun a r z e => by have e : (none : Option _) = some (r, z) := e; cases e
  | succ n ih =>
    intro a
    show KV (B_X11_runTick_104 N (LP_X11_runTick_104 N n) a.1 a.2.1 a.2.2) a.2.2
    exact kv_B_X11_runTick_104 ih
theorem kv_B_X11_runTick_11 {N : Nat} {R_11 : Int32 × Int32 × CSt → Option (Int32 × CSt)} {l1 : Int32} {l2 : Int32} {u : CSt} (h_R_11 : ∀ a, KV (R_11 a) a.2.2) : KV (B_X11_runTick_11 N R_11 l1 l2 u) u := by
  unfold B_X11_runTick_11
  refine KV_ok ?_
  refine KV_bc (kv_F_X6_ofSort.tr jv_rf) (fun _ _ => ?_)
  refine KV_if ?_ ?_
  · skip
    refine KV_bc (kv_F_X1_giveOutputs.tr jv_rf) (fun _ _ => ?_)
    exact (kv_LP_X11_runTick_104  _ _).tr jv_rf
  · skip
    refine KV_ok ?_
    refine KV_ix (fun _ => ?_)
    refine KV_if ?_ ?_
    · skip
      refine KV_bc (kv_F_X7_isDue.tr jv_rf) (fun _ _ => ?_)
      refine KV_if ?_ ?_
      · skip
        exact (kv_B_X11_runTick_89 h_R_11).tr jv_rf
      · skip
        refine KV_ok ?_
        refine KV_bc (kv_F_X2_run.tr jv_rf) (fun _ _ => ?_)
        refine KV_bc (kv_F_X7_note.tr jv_rf) (fun _ _ => ?_)
        exact (kv_B_X11_runTick_89 h_R_11).tr jv_rf
    · skip
      exact (kv_B_X11_runTick_89 h_R_11).tr jv_rf
theorem kv_LP_X11_runTick_11 {N : Nat}  (n : Nat) : ∀ a : Int32 × Int32 × CSt, KV (LP_X11_runTick_11 N n a) a.2.2 := by
  induction n with
  | zero => exact fun a r z e => by have e : (none : Option _) = some (r, z) := e; cases e
  | succ n ih =>
    intro a
    show KV (B_X11_runTick_11 N (LP_X11_runTick_11 N n) a.1 a.2.1 a.2.2) a.2.2
    exact kv_B_X11_runTick_11 ih
theorem kv_B_X11_runTick_0 {N : Nat} {u : CSt}  : KV (B_X11_runTick_0 N u) u := by
  unfold B_X11_runTick_0
  refine KV_bc (kv_F_X1_takeInputs.tr jv_rf) (fun _ _ => ?_)
  exact (kv_LP_X11_runTick_11  _ _).tr jv_rf
theorem kv_F_X11_runTick {N : Nat} {u : CSt}  : KV (F_X11_runTick N u) u := by
  unfold F_X11_runTick
  exact kv_B_X11_runTick_0.tr jv_rf
theorem kv_B_X11_scan_25 {N : Nat} {R_25 : Int32 × Int32 × Int32 × CSt → Option ((Sum Nat Int32) × CSt)} {l1 : Int32} {l2 : Int32} {l3 : Int32} {u : CSt} (h_R_25 : ∀ a, KV (R_25 a) a.2.2.2) : KV (B_X11_scan_25 N R_25 l1 l2 l3 u) u := by
  unfold B_X11_scan_25
  refine KV_if ?_ ?_
  · skip
    exact KV_some jv_rf
  · skip
    refine KV_bc (kv_F_X11_runTick.tr jv_rf) (fun _ _ => ?_)
    exact (h_R_25 _).tr jv_rf
theorem kv_LP_X11_scan_25 {N : Nat}  (n : Nat) : ∀ a : Int32 × Int32 × Int32 × CSt, KV (LP_X11_scan_25 N n a) a.2.2.2 := by
  induction n with
  | zero => exact fun a r z e => by have e : (none : Option _) = some (r, z) := e; cases e
  | succ n ih =>
    intro a
    show KV (B_X11_scan_25 N (LP_X11_scan_25 N n) a.1 a.2.1 a.2.2.1 a.2.2.2) a.2.2.2
    exact kv_B_X11_scan_25 ih
theorem kv_B_X11_scan_0 {N : Nat} {l1 : Int32} {u : CSt}  : KV (B_X11_scan_0 N l1 u) u := by
  unfold B_X11_scan_0
  refine KV_if ?_ ?_
  · skip
    exact KV_some jv_rf
  · skip
    refine KV_if ?_ ?_
    · skip
      exact (kv_LP_X11_scan_25  _ _).tr jv_rf
    · skip
      exact KV_some jv_rf
theorem kv_F_X11_scan {N : Nat} {l1 : Int32} {u : CSt}  : KV (F_X11_scan N l1 u) u := by
  unfold F_X11_scan
  exact kv_B_X11_scan_0.tr jv_rf
theorem kv_B_X11_power_50 {N : Nat} {R_2 : Int32 × CSt → Option (Int32 × CSt)} {l1 : Int32} {u : CSt} (h_R_2 : ∀ a, KV (R_2 a) a.2) : KV (B_X11_power_50 N R_2 l1 u) u := by
  unfold B_X11_power_50
  exact (h_R_2 _).tr jv_rf
theorem kv_B_X11_power_81 {N : Nat} {R_81 : Int32 × CSt → Option (Int32 × CSt)} {l1 : Int32} {u : CSt} (h_R_81 : ∀ a, KV (R_81 a) a.2) : KV (B_X11_power_81 N R_81 l1 u) u := by
  unfold B_X11_power_81
  refine KV_ok ?_
  refine KV_bc (kv_F_X6_ofSort.tr jv_rf) (fun _ _ => ?_)
  refine KV_if ?_ ?_
  · skip
    exact KV_some jv_rf
  · skip
    refine KV_ok ?_
    refine KV_ix (fun _ => ?_)
    refine KV_pc ?_
    exact (h_R_81 _).tr (fv_xtI jv_rf)
theorem kv_LP_X11_power_81 {N : Nat}  (n : Nat) : ∀ a : Int32 × CSt, KV (LP_X11_power_81 N n a) a.2 := by
  induction n with
  | zero => exact fun a r z e => by have e : (none : Option _) = some (r, z) := e; cases e
  | succ n ih =>
    intro a
    show KV (B_X11_power_81 N (LP_X11_power_81 N n) a.1 a.2) a.2
    exact kv_B_X11_power_81 ih
theorem kv_B_X11_power_2 {N : Nat} {R_2 : Int32 × CSt → Option (Int32 × CSt)} {l1 : Int32} {u : CSt} (h_R_2 : ∀ a, KV (R_2 a) a.2) : KV (B_X11_power_2 N R_2 l1 u) u := by
  unfold B_X11_power_2
  refine KV_ok ?_
  refine KV_bc (kv_F_X6_ofSort.tr jv_rf) (fun _ _ => ?_)
  refine KV_if ?_ ?_
  · skip
    refine KV_ok ?_
    refine KV_bc (kv_F_X2_resetInstances.tr jv_rf) (fun _ _ => ?_)
    refine KV_bc (kv_F_X1_wipe.tr jv_rf) (fun _ _ => ?_)
    refine KV_pc ?_
    exact (kv_LP_X11_power_81  _ _).tr (fv_xI (by first | decide | (refine ⟨?_, ?_⟩ <;> omega)) jv_rf)
  · skip
    refine KV_ok ?_
    refine KV_bc (kv_F_X6_nth.tr jv_rf) (fun _ _ => ?_)
    refine KV_ok ?_
    refine KV_if ?_ ?_
    · skip
      refine KV_bc (kv_F_X2_fill.tr jv_rf) (fun _ _ => ?_)
      exact (kv_B_X11_power_50 h_R_2).tr jv_rf
    · skip
      exact (kv_B_X11_power_50 h_R_2).tr jv_rf
theorem kv_LP_X11_power_2 {N : Nat}  (n : Nat) : ∀ a : Int32 × CSt, KV (LP_X11_power_2 N n a) a.2 := by
  induction n with
  | zero => exact fun a r z e => by have e : (none : Option _) = some (r, z) := e; cases e
  | succ n ih =>
    intro a
    show KV (B_X11_power_2 N (LP_X11_power_2 N n) a.1 a.2) a.2
    exact kv_B_X11_power_2 ih
theorem kv_B_X11_power_0 {N : Nat} {u : CSt}  : KV (B_X11_power_0 N u) u := by
  unfold B_X11_power_0
  exact (kv_LP_X11_power_2  _ _).tr jv_rf
theorem kv_F_X11_power {N : Nat} {u : CSt}  : KV (F_X11_power N u) u := by
  unfold F_X11_power
  exact kv_B_X11_power_0.tr jv_rf
theorem kv_B_X11_input_0 {N : Nat} {l1 : Int32} {l2 : Int32} {u : CSt}  : KV (B_X11_input_0 N l1 l2 u) u := by
  unfold B_X11_input_0
  refine KV_if ?_ ?_
  · skip
    exact KV_some jv_rf
  · skip
    refine KV_if ?_ ?_
    · skip
      refine KV_ix (fun _ => ?_)
      refine KV_wc ?_
      exact KV_some (fv_xA (by first | decide | (refine ⟨?_, ?_⟩ <;> omega)) jv_rf)
    · skip
      exact KV_some jv_rf
theorem kv_F_X11_input {N : Nat} {l1 : Int32} {l2 : Int32} {u : CSt}  : KV (F_X11_input N l1 l2 u) u := by
  unfold F_X11_input
  exact kv_B_X11_input_0.tr jv_rf
theorem kv_B_X11_look_0 {N : Nat} {l1 : Int32} {l2 : Int32} {u : CSt}  : KV (B_X11_look_0 N l1 l2 u) u := by
  unfold B_X11_look_0
  refine KV_if ?_ ?_
  · skip
    exact KV_some jv_rf
  · skip
    refine KV_if ?_ ?_
    · skip
      refine KV_if ?_ ?_
      · skip
        exact KV_some jv_rf
      · skip
        refine KV_if ?_ ?_
        · skip
          refine KV_ix (fun _ => ?_)
          refine KV_rd (fun _ => ?_)
          exact KV_some jv_rf
        · skip
          exact KV_some jv_rf
    · skip
      exact KV_some jv_rf
theorem kv_F_X11_look {N : Nat} {l1 : Int32} {l2 : Int32} {u : CSt}  : KV (F_X11_look N l1 l2 u) u := by
  unfold F_X11_look
  exact kv_B_X11_look_0.tr jv_rf
theorem kv_B_X11_force_62 {N : Nat} {l2 : Int32} {l3 : Int32} {l4 : Int32} {s1 : Int32} {u : CSt}  : KV (B_X11_force_62 N l2 l3 l4 s1 u) u := by
  unfold B_X11_force_62
  refine KV_ix (fun _ => ?_)
  refine KV_wc ?_
  exact KV_some (fv_xA (by first | decide | (refine ⟨?_, ?_⟩ <;> omega)) jv_rf)
theorem kv_B_X11_force_36 {N : Nat} {l1 : Int32} {l2 : Int32} {l3 : Int32} {l4 : Int32} {s1 : Int32} {u : CSt}  : KV (B_X11_force_36 N l1 l2 l3 l4 s1 u) u := by
  unfold B_X11_force_36
  refine KV_ix (fun _ => ?_)
  refine KV_wc ?_
  refine KV_if ?_ ?_
  · skip
    exact kv_B_X11_force_62.tr (fv_xA (by first | decide | (refine ⟨?_, ?_⟩ <;> omega)) jv_rf)
  · skip
    exact kv_B_X11_force_62.tr (fv_xA (by first | decide | (refine ⟨?_, ?_⟩ <;> omega)) jv_rf)
theorem kv_B_X11_force_0 {N : Nat} {l1 : Int32} {l2 : Int32} {l3 : Int32} {l4 : Int32} {u : CSt}  : KV (B_X11_force_0 N l1 l2 l3 l4 u) u := by
  unfold B_X11_force_0
  refine KV_if ?_ ?_
  · skip
    exact KV_some jv_rf
  · skip
    refine KV_if ?_ ?_
    · skip
      refine KV_if ?_ ?_
      · skip
        exact kv_B_X11_force_36.tr jv_rf
      · skip
        exact kv_B_X11_force_36.tr jv_rf
    · skip
      exact KV_some jv_rf
theorem kv_F_X11_force {N : Nat} {l1 : Int32} {l2 : Int32} {l3 : Int32} {l4 : Int32} {u : CSt}  : KV (F_X11_force N l1 l2 l3 l4 u) u := by
  unfold F_X11_force
  exact kv_B_X11_force_0.tr jv_rf
theorem kv_B_X11_watchdog_0 {N : Nat} {l1 : Int32} {u : CSt}  : KV (B_X11_watchdog_0 N l1 u) u := by
  unfold B_X11_watchdog_0
  refine KV_if ?_ ?_
  · skip
    exact KV_some jv_rf
  · skip
    refine KV_if ?_ ?_
    · skip
      refine KV_pc ?_
      exact KV_some (fv_xI (by first | decide | (refine ⟨?_, ?_⟩ <;> omega)) jv_rf)
    · skip
      exact KV_some jv_rf
theorem kv_F_X11_watchdog {N : Nat} {l1 : Int32} {u : CSt}  : KV (F_X11_watchdog N l1 u) u := by
  unfold F_X11_watchdog
  exact kv_B_X11_watchdog_0.tr jv_rf
theorem kv_B_X11_clear_0 {N : Nat} {l1 : Int32} {u : CSt}  : KV (B_X11_clear_0 N l1 u) u := by
  unfold B_X11_clear_0
  refine KV_ok ?_
  refine KV_bc (kv_F_X6_has.tr jv_rf) (fun _ _ => ?_)
  refine KV_if ?_ ?_
  · skip
    exact KV_some jv_rf
  · skip
    refine KV_ok ?_
    refine KV_ix (fun _ => ?_)
    refine KV_ix (fun _ => ?_)
    refine KV_pc ?_
    refine KV_zr ?_
    exact KV_some (fv_xtI jv_rf)
theorem kv_F_X11_clear {N : Nat} {l1 : Int32} {u : CSt}  : KV (F_X11_clear N l1 u) u := by
  unfold F_X11_clear
  exact kv_B_X11_clear_0.tr jv_rf
theorem kv_B_X11_task_0 {N : Nat} {l1 : Int32} {l2 : Int32} {u : CSt}  : KV (B_X11_task_0 N l1 l2 u) u := by
  unfold B_X11_task_0
  refine KV_ok ?_
  refine KV_bc (kv_F_X6_has.tr jv_rf) (fun _ _ => ?_)
  refine KV_if ?_ ?_
  · skip
    exact KV_some jv_rf
  · skip
    refine KV_ok ?_
    refine KV_ix (fun _ => ?_)
    refine KV_if ?_ ?_
    · skip
      exact KV_some jv_rf
    · skip
      refine KV_if ?_ ?_
      · skip
        exact KV_some jv_rf
      · skip
        refine KV_if ?_ ?_
        · skip
          refine KV_if ?_ ?_
          · skip
            exact KV_some jv_rf
          · skip
            exact KV_some jv_rf
        · skip
          refine KV_if ?_ ?_
          · skip
            exact KV_some jv_rf
          · skip
            refine KV_if ?_ ?_
            · skip
              exact KV_some jv_rf
            · skip
              refine KV_if ?_ ?_
              · skip
                exact KV_some jv_rf
              · skip
                refine KV_if ?_ ?_
                · skip
                  exact KV_some jv_rf
                · skip
                  refine KV_if ?_ ?_
                  · skip
                    exact KV_some jv_rf
                  · skip
                    refine KV_if ?_ ?_
                    · skip
                      exact KV_some jv_rf
                    · skip
                      exact KV_some jv_rf
theorem kv_F_X11_task {N : Nat} {l1 : Int32} {l2 : Int32} {u : CSt}  : KV (F_X11_task N l1 l2 u) u := by
  unfold F_X11_task
  exact kv_B_X11_task_0.tr jv_rf
theorem kv_B_X11_value_0 {N : Nat} {l1 : Int32} {l2 : Int32} {u : CSt}  : KV (B_X11_value_0 N l1 l2 u) u := by
  unfold B_X11_value_0
  refine KV_bc (kv_F_X11_hasPlace.tr jv_rf) (fun _ _ => ?_)
  refine KV_if ?_ ?_
  · skip
    exact KV_some jv_rf
  · skip
    refine KV_ok ?_
    refine KV_bc (kv_F_X6_nth.tr jv_rf) (fun _ _ => ?_)
    refine KV_ok ?_
    refine KV_bc (kv_F_X2_numberOf.tr jv_rf) (fun _ _ => ?_)
    exact KV_some jv_rf
theorem kv_F_X11_value {N : Nat} {l1 : Int32} {l2 : Int32} {u : CSt}  : KV (F_X11_value N l1 l2 u) u := by
  unfold F_X11_value
  exact kv_B_X11_value_0.tr jv_rf
theorem kv_B_X11_poke_0 {N : Nat} {l1 : Int32} {l2 : Int32} {l3 : Int64} {u : CSt}  : KV (B_X11_poke_0 N l1 l2 l3 u) u := by
  unfold B_X11_poke_0
  refine KV_bc (kv_F_X11_hasPlace.tr jv_rf) (fun _ _ => ?_)
  refine KV_if ?_ ?_
  · skip
    exact KV_some jv_rf
  · skip
    refine KV_ok ?_
    refine KV_bc (kv_F_X6_nth.tr jv_rf) (fun _ _ => ?_)
    refine KV_ok ?_
    refine KV_if ?_ ?_
    · skip
      exact KV_some jv_rf
    · skip
      refine KV_bc (kv_F_X2_change.tr jv_rf) (fun _ _ => ?_)
      refine KV_bc (kv_F_X2_numberOf.tr jv_rf) (fun _ _ => ?_)
      exact KV_some jv_rf
theorem kv_F_X11_poke {N : Nat} {l1 : Int32} {l2 : Int32} {l3 : Int64} {u : CSt}  : KV (F_X11_poke N l1 l2 l3 u) u := by
  unfold F_X11_poke
  exact kv_B_X11_poke_0.tr jv_rf
theorem kv_B_X11_variable_0 {N : Nat} {l1 : Int32} {l2 : Int32} {u : CSt}  : KV (B_X11_variable_0 N l1 l2 u) u := by
  unfold B_X11_variable_0
  refine KV_ok ?_
  refine KV_bc (kv_F_X6_has.tr jv_rf) (fun _ _ => ?_)
  refine KV_if ?_ ?_
  · skip
    exact KV_some jv_rf
  · skip
    refine KV_ok ?_
    refine KV_bc (kv_F_X6_nth.tr jv_rf) (fun _ _ => ?_)
    refine KV_ok ?_
    refine KV_if ?_ ?_
    · skip
      exact KV_some jv_rf
    · skip
      refine KV_if ?_ ?_
      · skip
        exact KV_some jv_rf
      · skip
        refine KV_if ?_ ?_
        · skip
          exact KV_some jv_rf
        · skip
          refine KV_if ?_ ?_
          · skip
            refine KV_if ?_ ?_
            · skip
              exact KV_some jv_rf
            · skip
              exact KV_some jv_rf
          · skip
            refine KV_if ?_ ?_
            · skip
              refine KV_bc (kv_F_X4_isPlaced.tr jv_rf) (fun _ _ => ?_)
              refine KV_if ?_ ?_
              · skip
                exact KV_some jv_rf
              · skip
                exact KV_some jv_rf
            · skip
              exact KV_some jv_rf
theorem kv_F_X11_variable {N : Nat} {l1 : Int32} {l2 : Int32} {u : CSt}  : KV (F_X11_variable N l1 l2 u) u := by
  unfold F_X11_variable
  exact kv_B_X11_variable_0.tr jv_rf
theorem kv_B_X11_field_0 {N : Nat} {l1 : Int32} {l2 : Int32} {l3 : Int32} {u : CSt}  : KV (B_X11_field_0 N l1 l2 l3 u) u := by
  unfold B_X11_field_0
  refine KV_ok ?_
  refine KV_bc (kv_F_X6_has.tr jv_rf) (fun _ _ => ?_)
  refine KV_if ?_ ?_
  · skip
    exact KV_some jv_rf
  · skip
    refine KV_ok ?_
    refine KV_bc (kv_F_X6_nth.tr jv_rf) (fun _ _ => ?_)
    refine KV_ok ?_
    refine KV_ok ?_
    refine KV_bc (kv_F_X6_name.tr jv_rf) (fun _ _ => ?_)
    refine KV_ok ?_
    refine KV_bc (kv_F_X6_local.tr jv_rf) (fun _ _ => ?_)
    refine KV_ok ?_
    refine KV_if ?_ ?_
    · skip
      exact KV_some jv_rf
    · skip
      refine KV_if ?_ ?_
      · skip
        exact KV_some jv_rf
      · skip
        refine KV_if ?_ ?_
        · skip
          refine KV_bc (kv_F_X2_numberAt.tr jv_rf) (fun _ _ => ?_)
          exact KV_some jv_rf
        · skip
          exact KV_some jv_rf
theorem kv_F_X11_field {N : Nat} {l1 : Int32} {l2 : Int32} {l3 : Int32} {u : CSt}  : KV (F_X11_field N l1 l2 l3 u) u := by
  unfold F_X11_field
  exact kv_B_X11_field_0.tr jv_rf
theorem kv_B_X11_find_0 {N : Nat} {l1 : Int32} {u : CSt}  : KV (B_X11_find_0 N l1 u) u := by
  unfold B_X11_find_0
  refine KV_if ?_ ?_
  · skip
    exact KV_some jv_rf
  · skip
    refine KV_if ?_ ?_
    · skip
      refine KV_bc (kv_F_X9_isWord.tr jv_rf) (fun _ _ => ?_)
      refine KV_if ?_ ?_
      · skip
        exact KV_some jv_rf
      · skip
        refine KV_ok ?_
        refine KV_bc (kv_F_X9_wordHead.tr jv_rf) (fun _ _ => ?_)
        refine KV_bc (kv_F_X9_wordTail.tr jv_rf) (fun _ _ => ?_)
        refine KV_bc (kv_F_X6_ofText.tr jv_rf) (fun _ _ => ?_)
        refine KV_ok ?_
        refine KV_if ?_ ?_
        · skip
          exact KV_some jv_rf
        · skip
          exact KV_some jv_rf
    · skip
      exact KV_some jv_rf
theorem kv_F_X11_find {N : Nat} {l1 : Int32} {u : CSt}  : KV (F_X11_find N l1 u) u := by
  unfold F_X11_find
  exact kv_B_X11_find_0.tr jv_rf
theorem kv_B_X11_event_0 {N : Nat} {l1 : Int32} {l2 : Int32} {u : CSt}  : KV (B_X11_event_0 N l1 l2 u) u := by
  unfold B_X11_event_0
  refine KV_if ?_ ?_
  · skip
    exact KV_some jv_rf
  · skip
    refine KV_if ?_ ?_
    · skip
      refine KV_bc (kv_F_X10_latest.tr jv_rf) (fun _ _ => ?_)
      refine KV_if ?_ ?_
      · skip
        refine KV_rd (fun _ => ?_)
        exact KV_some jv_rf
      · skip
        refine KV_if ?_ ?_
        · skip
          refine KV_rd (fun _ => ?_)
          exact KV_some jv_rf
        · skip
          refine KV_if ?_ ?_
          · skip
            refine KV_rd (fun _ => ?_)
            exact KV_some jv_rf
          · skip
            refine KV_if ?_ ?_
            · skip
              refine KV_rd (fun _ => ?_)
              exact KV_some jv_rf
            · skip
              exact KV_some jv_rf
    · skip
      exact KV_some jv_rf
theorem kv_F_X11_event {N : Nat} {l1 : Int32} {l2 : Int32} {u : CSt}  : KV (F_X11_event N l1 l2 u) u := by
  unfold F_X11_event
  exact kv_B_X11_event_0.tr jv_rf
theorem kv_B_X11_count_0 {N : Nat} {l1 : Int32} {u : CSt}  : KV (B_X11_count_0 N l1 u) u := by
  unfold B_X11_count_0
  refine KV_if ?_ ?_
  · skip
    refine KV_ok ?_
    refine KV_bc (kv_F_X6_ofSort.tr jv_rf) (fun _ _ => ?_)
    exact KV_some jv_rf
  · skip
    refine KV_if ?_ ?_
    · skip
      refine KV_ok ?_
      refine KV_bc (kv_F_X6_ofSort.tr jv_rf) (fun _ _ => ?_)
      exact KV_some jv_rf
    · skip
      refine KV_if ?_ ?_
      · skip
        refine KV_ok ?_
        refine KV_bc (kv_F_X6_ofSort.tr jv_rf) (fun _ _ => ?_)
        exact KV_some jv_rf
      · skip
        refine KV_if ?_ ?_
        · skip
          refine KV_ok ?_
          refine KV_bc (kv_F_X6_ofSort.tr jv_rf) (fun _ _ => ?_)
          exact KV_some jv_rf
        · skip
          refine KV_if ?_ ?_
          · skip
            refine KV_ok ?_
            refine KV_bc (kv_F_X6_ofSort.tr jv_rf) (fun _ _ => ?_)
            exact KV_some jv_rf
          · skip
            refine KV_if ?_ ?_
            · skip
              exact KV_some jv_rf
            · skip
              refine KV_if ?_ ?_
              · skip
                refine KV_ok ?_
                refine KV_bc (kv_F_X6_stoppedTasks.tr jv_rf) (fun _ _ => ?_)
                exact KV_some jv_rf
              · skip
                refine KV_if ?_ ?_
                · skip
                  exact KV_some jv_rf
                · skip
                  refine KV_if ?_ ?_
                  · skip
                    exact KV_some jv_rf
                  · skip
                    refine KV_if ?_ ?_
                    · skip
                      exact KV_some jv_rf
                    · skip
                      refine KV_if ?_ ?_
                      · skip
                        exact KV_some jv_rf
                      · skip
                        exact KV_some jv_rf
theorem kv_F_X11_count {N : Nat} {l1 : Int32} {u : CSt}  : KV (F_X11_count N l1 u) u := by
  unfold F_X11_count
  exact kv_B_X11_count_0.tr jv_rf
theorem kv_B_X11_sum_30 {N : Nat} {R_4 : Int64 × Int32 × CSt → Option (Int64 × CSt)} {R_30 : Int64 × Int32 × Nat × Int32 × CSt → Option (Int64 × CSt)} {l1 : Int64} {l3 : Int32} {l4 : Nat} {l5 : Int32} {u : CSt} (h_R_4 : ∀ a, KV (R_4 a) a.2.2) (h_R_30 : ∀ a, KV (R_30 a) a.2.2.2.2) : KV (B_X11_sum_30 N R_4 R_30 l1 l3 l4 l5 u) u := by
  unfold B_X11_sum_30
  refine KV_if ?_ ?_
  · skip
    exact (h_R_4 _).tr jv_rf
  · skip
    refine KV_bc (kv_F_X2_numberOf.tr jv_rf) (fun _ _ => ?_)
    exact (h_R_30 _).tr jv_rf
theorem kv_LP_X11_sum_30 {N : Nat} {R_4 : Int64 × Int32 × CSt → Option (Int64 × CSt)} (h_R_4 : ∀ a, KV (R_4 a) a.2.2) (n : Nat) : ∀ a : Int64 × Int32 × Nat × Int32 × CSt, KV (LP_X11_sum_30 N R_4 n a) a.2.2.2.2 := by
  induction n with
  | zero => exact fun a r z e => by have e : (none : Option _) = some (r, z) := e; cases e
  | succ n ih =>
    intro a
    show KV (B_X11_sum_30 N R_4 (LP_X11_sum_30 N R_4 n) a.1 a.2.1 a.2.2.1 a.2.2.2.1 a.2.2.2.2) a.2.2.2.2
    exact kv_B_X11_sum_30 h_R_4 ih
theorem kv_B_X11_sum_115 {N : Nat} {R_72 : Int64 × Int32 × CSt → Option (Int64 × CSt)} {R_115 : Int64 × Int32 × Nat × Int32 × Int32 × CSt → Option (Int64 × CSt)} {l1 : Int64} {l3 : Int32} {l4 : Nat} {l5 : Int32} {l6 : Int32} {u : CSt} (h_R_72 : ∀ a, KV (R_72 a) a.2.2) (h_R_115 : ∀ a, KV (R_115 a) a.2.2.2.2.2) : KV (B_X11_sum_115 N R_72 R_115 l1 l3 l4 l5 l6 u) u := by
  unfold B_X11_sum_115
  refine KV_if ?_ ?_
  · skip
    exact (h_R_72 _).tr jv_rf
  · skip
    refine KV_bc (kv_F_X2_numberAt.tr jv_rf) (fun _ _ => ?_)
    exact (h_R_115 _).tr jv_rf
theorem kv_LP_X11_sum_115 {N : Nat} {R_72 : Int64 × Int32 × CSt → Option (Int64 × CSt)} (h_R_72 : ∀ a, KV (R_72 a) a.2.2) (n : Nat) : ∀ a : Int64 × Int32 × Nat × Int32 × Int32 × CSt, KV (LP_X11_sum_115 N R_72 n a) a.2.2.2.2.2 := by
  induction n with
  | zero => exact fun a r z e => by have e : (none : Option _) = some (r, z) := e; cases e
  | succ n ih =>
    intro a
    show KV (B_X11_sum_115 N R_72 (LP_X11_sum_115 N R_72 n) a.1 a.2.1 a.2.2.1 a.2.2.2.1 a.2.2.2.2.1 a.2.2.2.2.2) a.2.2.2.2.2
    exact kv_B_X11_sum_115 h_R_72 ih
theorem kv_B_X11_sum_72 {N : Nat} {R_72 : Int64 × Int32 × CSt → Option (Int64 × CSt)} {l1 : Int64} {l3 : Int32} {u : CSt} (h_R_72 : ∀ a, KV (R_72 a) a.2.2) : KV (B_X11_sum_72 N R_72 l1 l3 u) u := by
  unfold B_X11_sum_72
  refine KV_ok ?_
  refine KV_bc (kv_F_X6_ofSort.tr jv_rf) (fun _ _ => ?_)
  refine KV_if ?_ ?_
  · skip
    exact KV_some jv_rf
  · skip
    refine KV_ok ?_
    refine KV_bc (kv_F_X6_nth.tr jv_rf) (fun _ _ => ?_)
    refine KV_ok ?_
    refine KV_ok ?_
    refine KV_bc (kv_F_X6_name.tr jv_rf) (fun _ _ => ?_)
    refine KV_ok ?_
    exact (kv_LP_X11_sum_115 h_R_72 _ _).tr jv_rf
theorem kv_LP_X11_sum_72 {N : Nat}  (n : Nat) : ∀ a : Int64 × Int32 × CSt, KV (LP_X11_sum_72 N n a) a.2.2 := by
  induction n with
  | zero => exact fun a r z e => by have e : (none : Option _) = some (r, z) := e; cases e
  | succ n ih =>
    intro a
    show KV (B_X11_sum_72 N (LP_X11_sum_72 N n) a.1 a.2.1 a.2.2) a.2.2
    exact kv_B_X11_sum_72 ih
theorem kv_B_X11_sum_4 {N : Nat} {R_4 : Int64 × Int32 × CSt → Option (Int64 × CSt)} {l1 : Int64} {l3 : Int32} {u : CSt} (h_R_4 : ∀ a, KV (R_4 a) a.2.2) : KV (B_X11_sum_4 N R_4 l1 l3 u) u := by
  unfold B_X11_sum_4
  refine KV_ok ?_
  refine KV_bc (kv_F_X6_ofSort.tr jv_rf) (fun _ _ => ?_)
  refine KV_if ?_ ?_
  · skip
    exact (kv_LP_X11_sum_72  _ _).tr jv_rf
  · skip
    refine KV_ok ?_
    refine KV_bc (kv_F_X6_nth.tr jv_rf) (fun _ _ => ?_)
    refine KV_ok ?_
    exact (kv_LP_X11_sum_30 h_R_4 _ _).tr jv_rf
theorem kv_LP_X11_sum_4 {N : Nat}  (n : Nat) : ∀ a : Int64 × Int32 × CSt, KV (LP_X11_sum_4 N n a) a.2.2 := by
  induction n with
  | zero => exact fun a r z e => by have e : (none : Option _) = some (r, z) := e; cases e
  | succ n ih =>
    intro a
    show KV (B_X11_sum_4 N (LP_X11_sum_4 N n) a.1 a.2.1 a.2.2) a.2.2
    exact kv_B_X11_sum_4 ih
theorem kv_B_X11_sum_0 {N : Nat} {u : CSt}  : KV (B_X11_sum_0 N u) u := by
  unfold B_X11_sum_0
  exact (kv_LP_X11_sum_4  _ _).tr jv_rf
theorem kv_F_X11_sum {N : Nat} {u : CSt}  : KV (F_X11_sum N u) u := by
  unfold F_X11_sum
  exact kv_B_X11_sum_0.tr jv_rf
theorem kv_B_X11_cut_0 {N : Nat} {l1 : Int32} {l2 : Int64} {u : CSt}  : KV (B_X11_cut_0 N l1 l2 u) u := by
  unfold B_X11_cut_0
  refine KV_if ?_ ?_
  · skip
    exact KV_some jv_rf
  · skip
    exact KV_some jv_rf
theorem kv_F_X11_cut {N : Nat} {l1 : Int32} {l2 : Int64} {u : CSt}  : KV (F_X11_cut N l1 l2 u) u := by
  unfold F_X11_cut
  exact kv_B_X11_cut_0.tr jv_rf
theorem kv_B_X11_work_68 {N : Nat} {l1 : Int32} {l2 : Int32} {l3 : Int32} {l4 : Int64} {l8 : Int64} {u : CSt}  : KV (B_X11_work_68 N l1 l2 l3 l4 l8 u) u := by
  unfold B_X11_work_68
  exact KV_some jv_rf
theorem kv_B_X11_work_0 {N : Nat} {l1 : Int32} {l2 : Int32} {l3 : Int32} {l4 : Int64} {l6 : Int64} {u : CSt}  : KV (B_X11_work_0 N l1 l2 l3 l4 l6 u) u := by
  unfold B_X11_work_0
  refine KV_if ?_ ?_
  · skip
    exact KV_some jv_rf
  · skip
    refine KV_if ?_ ?_
    · skip
      exact KV_some jv_rf
    · skip
      refine KV_if ?_ ?_
      · skip
        exact KV_some jv_rf
      · skip
        refine KV_if ?_ ?_
        · skip
          refine KV_if ?_ ?_
          · skip
            refine KV_if ?_ ?_
            · skip
              exact kv_B_X11_work_68.tr jv_rf
            · skip
              exact KV_some jv_rf
          · skip
            exact kv_B_X11_work_68.tr jv_rf
        · skip
          exact KV_some jv_rf
theorem kv_F_X11_work {N : Nat} {l1 : Int32} {l2 : Int32} {l3 : Int32} {l4 : Int64} {l6 : Int64} {u : CSt}  : KV (F_X11_work N l1 l2 l3 l4 l6 u) u := by
  unfold F_X11_work
  exact kv_B_X11_work_0.tr jv_rf
theorem kv_B_X11_tell_46 {N : Nat} {l2 : Int32} {l3 : Int32} {l4 : Int64} {l6 : Int64} {s0 : Int32} {s1 : Int32} {u : CSt}  : KV (B_X11_tell_46 N l2 l3 l4 l6 s0 s1 u) u := by
  unfold B_X11_tell_46
  exact KV_some jv_rf
theorem kv_B_X11_tell_0 {N : Nat} {l1 : Int32} {l2 : Int32} {l3 : Int32} {l4 : Int64} {l6 : Int64} {u : CSt}  : KV (B_X11_tell_0 N l1 l2 l3 l4 l6 u) u := by
  unfold B_X11_tell_0
  refine KV_if ?_ ?_
  · skip
    exact KV_some jv_rf
  · skip
    refine KV_if ?_ ?_
    · skip
      exact KV_some jv_rf
    · skip
      refine KV_if ?_ ?_
      · skip
        exact KV_some jv_rf
      · skip
        refine KV_if ?_ ?_
        · skip
          refine KV_if ?_ ?_
          · skip
            exact kv_B_X11_tell_46.tr jv_rf
          · skip
            exact kv_B_X11_tell_46.tr jv_rf
        · skip
          exact KV_some jv_rf
theorem kv_F_X11_tell {N : Nat} {l1 : Int32} {l2 : Int32} {l3 : Int32} {l4 : Int64} {l6 : Int64} {u : CSt}  : KV (F_X11_tell N l1 l2 l3 l4 l6 u) u := by
  unfold F_X11_tell
  exact kv_B_X11_tell_0.tr jv_rf
def jw (u w : RSt) : Prop := w.1 98 = u.1 98 ∧ w.2.2.1 95 = u.2.2.1 95 ∧ w.2.2.1 96 = u.2.2.1 96 ∧ w.1 55 = u.1 55
def KX {β : Type} (x : Option (β × RSt)) (u : RSt) : Prop := ∀ r w, x = some (r, w) → jw u w
section KXs
variable {α β γ : Type} {u v w : RSt}
theorem jw_rf : jw u u := ⟨rfl, rfl, rfl, rfl⟩
theorem jw_tr (h : jw u v) (h2 : jw v w) : jw u w := ⟨h2.1.trans h.1, h2.2.1.trans h.2.1, h2.2.2.1.trans h.2.2.1, h2.2.2.2.trans h.2.2.2⟩
theorem KX.tr {x : Option (β × RSt)} (hx : KX x w) (h : jw u w) : KX x u := fun r z e => jw_tr h (hx r z e)
theorem fx_sI {k : Nat} {a : Int32} (hk : k ≠ 98 ∧ k ≠ 55) (h : jw u w) : jw u (sI w k a) := by
  refine jw_tr h ⟨?_, rfl, rfl, ?_⟩
  · show (if 98 = k then a else w.1 98) = w.1 98
    rw [if_neg (fun q => hk.1 q.symm)]
  · show (if 55 = k then a else w.1 55) = w.1 55
    rw [if_neg (fun q => hk.2 q.symm)]
theorem fx_sL {k : Nat} {a : Int64} (h : jw u w) : jw u (sL w k a) := h
theorem fx_sA {k i : Nat} {a : Int32} (hk : k ≠ 95 ∧ k ≠ 96) (h : jw u w) : jw u (sA w k i a) := by
  refine jw_tr h ⟨rfl, ?_, ?_, rfl⟩
  · show (if 95 = k then upd (w.2.2.1 k) i a else w.2.2.1 95) = _
    rw [if_neg (fun q => hk.1 q.symm)]
  · show (if 96 = k then upd (w.2.2.1 k) i a else w.2.2.1 96) = _
    rw [if_neg (fun q => hk.2 q.symm)]
theorem fx_sB {k i : Nat} {a : Int64} (h : jw u w) : jw u (sB w k i a) := h
theorem KX_some {r : β} (h : jw u w) : KX (some (r, w)) u := fun _ _ e => by cases e; exact h
theorem KX_none : KX (none : Option (β × RSt)) u := fun _ _ e => nomatch e
theorem KX_rd {f : Nat → α} {n : Nat} {i : Int32} {k : α → Option (β × RSt)} (h : ∀ a, KX (k a) u) : KX (rd f n i k) u := by
  intro r z e
  have q : wp (rd f n i k) (fun r' z' => r' = r ∧ z' = z) := ⟨r, z, e, rfl, rfl⟩
  obtain ⟨r1, z1, e1, rfl, rfl⟩ := (wp_rd.mp q).2
  exact h _ _ _ e1
theorem KX_if {c : Prop} {d : Decidable c} {a b : Option (β × RSt)} (ha : KX a u) (hb : KX b u) : KX (if c then a else b) u := by
  by_cases q : c
  · rw [if_pos q]; exact ha
  · rw [if_neg q]; exact hb
theorem KX_zr {v : Int32} {x : Option (β × RSt)} (h : KX x u) : KX (zr v x) u := fun r z e => h r z (zr_of e).2
theorem KX_nz {v : Int32} {x : Option (β × RSt)} (h : KX x u) : KX (nz v x) u := fun r z e => h r z (nz_of e).2
theorem KX_ok {P : Prop} {d : Decidable P} {x : Option (β × RSt)} (h : KX x u) : KX (ok P d x) u := fun r z e => h r z (ok_of e).2
theorem KX_pu {x : RSt} {k : RSt → Option (β × RSt)} (h : KX (k x) u) : KX (pu x k) u := h
theorem KX_wr {n : Nat} {i : Int32} {x : RSt} {k : RSt → Option (β × RSt)} (h : KX (k x) u) : KX (wr n i x k) u := by
  intro r z e
  have q : wp (wr n i x k) (fun r' z' => r' = r ∧ z' = z) := ⟨r, z, e, rfl, rfl⟩
  obtain ⟨r1, z1, e1, rfl, rfl⟩ := (wp_wr.mp q).2
  exact h _ _ e1
theorem KX_bn {x : Option (α × RSt)} {k : α → RSt → Option (β × RSt)} (hx : KX x u) (h : ∀ r w, KX (k r w) w) : KX (bn x k) u := by
  intro r z e
  have q : wp (bn x k) (fun r' z' => r' = r ∧ z' = z) := ⟨r, z, e, rfl, rfl⟩
  obtain ⟨r1, z1, e1, r2, z2, e2, rfl, rfl⟩ := wp_bn.mp q
  exact jw_tr (hx _ _ e1) (h _ _ _ _ e2)
end KXs

theorem kx_B_see_0 {N : Nat} {l1 : Int32} {u : RSt}  : KX (B_see_0 N l1 u) u := by
  unfold B_see_0
  refine KX_if ?_ ?_
  · skip
    exact KX_some jw_rf
  · skip
    refine KX_rd (fun _ => ?_)
    exact KX_some jw_rf
theorem kx_F_see {N : Nat} {l1 : Int32} {u : RSt}  : KX (F_see N l1 u) u := by
  unfold F_see
  exact kx_B_see_0.tr jw_rf
theorem kx_B_read_44 {N : Nat} {R_44 : Int32 × Int32 × Int64 × Int32 × RSt → Option (Int64 × RSt)} {l2 : Int32} {l3 : Int32} {l4 : Int64} {l6 : Int32} {u : RSt} (h_R_44 : ∀ a, KX (R_44 a) a.2.2.2.2) : KX (B_read_44 N R_44 l2 l3 l4 l6 u) u := by
  unfold B_read_44
  refine KX_if ?_ ?_
  · skip
    exact KX_some jw_rf
  · skip
    refine KX_rd (fun _ => ?_)
    exact (h_R_44 _).tr jw_rf
theorem kx_LP_read_44 {N : Nat}  (n : Nat) : ∀ a : Int32 × Int32 × Int64 × Int32 × RSt, KX (LP_read_44 N n a) a.2.2.2.2 := by
  induction n with
  | zero => exact fun a r z e => by have e : (none : Option _) = some (r, z) := e; cases e
  | succ n ih =>
    intro a
    show KX (B_read_44 N (LP_read_44 N n) a.1 a.2.1 a.2.2.1 a.2.2.2.1 a.2.2.2.2) a.2.2.2.2
    exact kx_B_read_44 ih
theorem kx_B_read_37 {N : Nat} {l2 : Int32} {s0 : Int32} {u : RSt}  : KX (B_read_37 N l2 s0 u) u := by
  unfold B_read_37
  exact (kx_LP_read_44  _ _).tr jw_rf
theorem kx_B_read_0 {N : Nat} {l1 : Int32} {l2 : Int32} {u : RSt}  : KX (B_read_0 N l1 l2 u) u := by
  unfold B_read_0
  refine KX_if ?_ ?_
  · skip
    refine KX_if ?_ ?_
    · skip
      exact kx_B_read_37.tr jw_rf
    · skip
      exact kx_B_read_37.tr jw_rf
  · skip
    refine KX_rd (fun _ => ?_)
    exact KX_some jw_rf
theorem kx_F_read {N : Nat} {l1 : Int32} {l2 : Int32} {u : RSt}  : KX (F_read N l1 l2 u) u := by
  unfold F_read
  exact kx_B_read_0.tr jw_rf
theorem kx_B_write_31 {N : Nat} {R_31 : Int32 × Int64 × Int32 × Int32 × RSt → Option (Int32 × RSt)} {l1 : Int32} {l3 : Int64} {l5 : Int32} {l6 : Int32} {u : RSt} (h_R_31 : ∀ a, KX (R_31 a) a.2.2.2.2) : KX (B_write_31 N R_31 l1 l3 l5 l6 u) u := by
  unfold B_write_31
  refine KX_if ?_ ?_
  · skip
    exact KX_some jw_rf
  · skip
    refine KX_wr ?_
    exact (h_R_31 _).tr (fx_sA (by decide) jw_rf)
theorem kx_LP_write_31 {N : Nat}  (n : Nat) : ∀ a : Int32 × Int64 × Int32 × Int32 × RSt, KX (LP_write_31 N n a) a.2.2.2.2 := by
  induction n with
  | zero => exact fun a r z e => by have e : (none : Option _) = some (r, z) := e; cases e
  | succ n ih =>
    intro a
    show KX (B_write_31 N (LP_write_31 N n) a.1 a.2.1 a.2.2.1 a.2.2.2.1 a.2.2.2.2) a.2.2.2.2
    exact kx_B_write_31 ih
theorem kx_B_write_0 {N : Nat} {l1 : Int32} {l2 : Int32} {l3 : Int64} {u : RSt}  : KX (B_write_0 N l1 l2 l3 u) u := by
  unfold B_write_0
  refine KX_if ?_ ?_
  · skip
    exact (kx_LP_write_31  _ _).tr jw_rf
  · skip
    refine KX_wr ?_
    exact KX_some (fx_sB jw_rf)
theorem kx_F_write {N : Nat} {l1 : Int32} {l2 : Int32} {l3 : Int64} {u : RSt}  : KX (F_write N l1 l2 l3 u) u := by
  unfold F_write
  exact kx_B_write_0.tr jw_rf
theorem kx_B_stops_0 {N : Nat} {l1 : Int32} {l2 : Int32} {u : RSt}  : KX (B_stops_0 N l1 l2 u) u := by
  unfold B_stops_0
  refine KX_pu ?_
  refine KX_pu ?_
  exact KX_some (fx_sI (by decide) (fx_sI (by decide) jw_rf))
theorem kx_F_stops {N : Nat} {l1 : Int32} {l2 : Int32} {u : RSt}  : KX (F_stops N l1 l2 u) u := by
  unfold F_stops
  exact kx_B_stops_0.tr jw_rf
theorem kx_B_mayCall_0 {N : Nat} {l1 : Int32} {u : RSt}  : KX (B_mayCall_0 N l1 u) u := by
  unfold B_mayCall_0
  refine KX_if ?_ ?_
  · skip
    refine KX_bn (kx_F_stops.tr jw_rf) (fun _ _ => ?_)
    exact KX_some jw_rf
  · skip
    refine KX_wr ?_
    refine KX_wr ?_
    refine KX_wr ?_
    exact KX_some (fx_sA (by decide) (fx_sA (by decide) (fx_sA (by decide) jw_rf)))
theorem kx_F_mayCall {N : Nat} {l1 : Int32} {u : RSt}  : KX (F_mayCall N l1 u) u := by
  unfold F_mayCall
  exact kx_B_mayCall_0.tr jw_rf
theorem kx_B_enter_120 {N : Nat} {R_39 : Int32 × Int32 × Int32 × Int32 × Int32 × RSt → Option (Int32 × RSt)} {R_53 : Int32 × Int32 × Int32 × Int32 × Int32 × Int32 × RSt → Option (Int32 × RSt)} {l1 : Int32} {l2 : Int32} {l3 : Int32} {l4 : Int32} {l5 : Int32} {l6 : Int32} {s1 : Int32} {s2 : Int64} {u : RSt} (h_R_39 : ∀ a, KX (R_39 a) a.2.2.2.2.2) (h_R_53 : ∀ a, KX (R_53 a) a.2.2.2.2.2.2) : KX (B_enter_120 N R_39 R_53 l1 l2 l3 l4 l5 l6 s1 s2 u) u := by
  unfold B_enter_120
  refine KX_wr ?_
  exact (h_R_53 _).tr (fx_sB jw_rf)
theorem kx_B_enter_53 {N : Nat} {R_39 : Int32 × Int32 × Int32 × Int32 × Int32 × RSt → Option (Int32 × RSt)} {R_53 : Int32 × Int32 × Int32 × Int32 × Int32 × Int32 × RSt → Option (Int32 × RSt)} {l1 : Int32} {l2 : Int32} {l3 : Int32} {l4 : Int32} {l5 : Int32} {l6 : Int32} {u : RSt} (h_R_39 : ∀ a, KX (R_39 a) a.2.2.2.2.2) (h_R_53 : ∀ a, KX (R_53 a) a.2.2.2.2.2.2) : KX (B_enter_53 N R_39 R_53 l1 l2 l3 l4 l5 l6 u) u := by
  unfold B_enter_53
  refine KX_rd (fun _ => ?_)
  refine KX_if ?_ ?_
  · skip
    exact (h_R_39 _).tr jw_rf
  · skip
    refine KX_rd (fun _ => ?_)
    refine KX_if ?_ ?_
    · skip
      refine KX_rd (fun _ => ?_)
      exact (kx_B_enter_120 h_R_39 h_R_53).tr jw_rf
    · skip
      refine KX_rd (fun _ => ?_)
      exact (kx_B_enter_120 h_R_39 h_R_53).tr jw_rf
theorem kx_LP_enter_53 {N : Nat} {R_39 : Int32 × Int32 × Int32 × Int32 × Int32 × RSt → Option (Int32 × RSt)} (h_R_39 : ∀ a, KX (R_39 a) a.2.2.2.2.2) (n : Nat) : ∀ a : Int32 × Int32 × Int32 × Int32 × Int32 × Int32 × RSt, KX (LP_enter_53 N R_39 n a) a.2.2.2.2.2.2 := by
  induction n with
  | zero => exact fun a r z e => by have e : (none : Option _) = some (r, z) := e; cases e
  | succ n ih =>
    intro a
    show KX (B_enter_53 N R_39 (LP_enter_53 N R_39 n) a.1 a.2.1 a.2.2.1 a.2.2.2.1 a.2.2.2.2.1 a.2.2.2.2.2.1 a.2.2.2.2.2.2) a.2.2.2.2.2.2
    exact kx_B_enter_53 h_R_39 ih
theorem kx_B_enter_39 {N : Nat} {R_39 : Int32 × Int32 × Int32 × Int32 × Int32 × RSt → Option (Int32 × RSt)} {l1 : Int32} {l2 : Int32} {l3 : Int32} {l4 : Int32} {l5 : Int32} {u : RSt} (h_R_39 : ∀ a, KX (R_39 a) a.2.2.2.2.2) : KX (B_enter_39 N R_39 l1 l2 l3 l4 l5 u) u := by
  unfold B_enter_39
  refine KX_rd (fun _ => ?_)
  refine KX_if ?_ ?_
  · skip
    refine KX_pu ?_
    refine KX_wr ?_
    refine KX_pu ?_
    refine KX_pu ?_
    refine KX_rd (fun _ => ?_)
    refine KX_pu ?_
    exact KX_some (fx_sI (by decide) (fx_sI (by decide) (fx_sI (by decide) (fx_sA (by decide) (fx_sI (by decide) jw_rf)))))
  · skip
    exact (kx_LP_enter_53 h_R_39 _ _).tr jw_rf
theorem kx_LP_enter_39 {N : Nat}  (n : Nat) : ∀ a : Int32 × Int32 × Int32 × Int32 × Int32 × RSt, KX (LP_enter_39 N n a) a.2.2.2.2.2 := by
  induction n with
  | zero => exact fun a r z e => by have e : (none : Option _) = some (r, z) := e; cases e
  | succ n ih =>
    intro a
    show KX (B_enter_39 N (LP_enter_39 N n) a.1 a.2.1 a.2.2.1 a.2.2.2.1 a.2.2.2.2.1 a.2.2.2.2.2) a.2.2.2.2.2
    exact kx_B_enter_39 ih
theorem kx_B_enter_0 {N : Nat} {l1 : Int32} {u : RSt}  : KX (B_enter_0 N l1 u) u := by
  unfold B_enter_0
  refine KX_rd (fun _ => ?_)
  refine KX_rd (fun _ => ?_)
  exact (kx_LP_enter_39  _ _).tr jw_rf
theorem kx_F_enter {N : Nat} {l1 : Int32} {u : RSt}  : KX (F_enter N l1 u) u := by
  unfold F_enter
  exact kx_B_enter_0.tr jw_rf
theorem kx_B_leave_0 {N : Nat} {u : RSt}  : KX (B_leave_0 N u) u := by
  unfold B_leave_0
  refine KX_pu ?_
  refine KX_rd (fun _ => ?_)
  refine KX_pu ?_
  refine KX_rd (fun _ => ?_)
  refine KX_pu ?_
  refine KX_rd (fun _ => ?_)
  refine KX_pu ?_
  refine KX_rd (fun _ => ?_)
  refine KX_pu ?_
  exact KX_some (fx_sI (by decide) (fx_sI (by decide) (fx_sI (by decide) (fx_sI (by decide) (fx_sI (by decide) jw_rf)))))
theorem kx_F_leave {N : Nat} {u : RSt}  : KX (F_leave N u) u := by
  unfold F_leave
  exact kx_B_leave_0.tr jw_rf
theorem kx_B_run_1519 {N : Nat} {R_39 : Int32 × RSt → Option (Int32 × RSt)} {l2 : Int32} {u : RSt} (h_R_39 : ∀ a, KX (R_39 a) a.2) : KX (B_run_1519 N R_39 l2 u) u := by
  unfold B_run_1519
  exact (h_R_39 _).tr jw_rf
theorem kx_B_run_483 {N : Nat} {R_39 : Int32 × RSt → Option (Int32 × RSt)} {l2 : Int32} {l5 : Int32} {u : RSt} (h_R_39 : ∀ a, KX (R_39 a) a.2) : KX (B_run_483 N R_39 l2 l5 u) u := by
  unfold B_run_483
  refine KX_bn (kx_F_stops.tr jw_rf) (fun _ _ => ?_)
  exact (kx_B_run_1519 h_R_39).tr jw_rf
theorem kx_B_run_685 {N : Nat} {R_39 : Int32 × RSt → Option (Int32 × RSt)} {l2 : Int32} {s1 : Int32} {s2 : Int32} {s3 : Int64} {u : RSt} (h_R_39 : ∀ a, KX (R_39 a) a.2) : KX (B_run_685 N R_39 l2 s1 s2 s3 u) u := by
  unfold B_run_685
  refine KX_bn (kx_F_write.tr jw_rf) (fun _ _ => ?_)
  exact (kx_B_run_1519 h_R_39).tr jw_rf
theorem kx_B_run_799 {N : Nat} {R_39 : Int32 × RSt → Option (Int32 × RSt)} {l2 : Int32} {s1 : Int32} {s2 : Int32} {s3 : Int32} {u : RSt} (h_R_39 : ∀ a, KX (R_39 a) a.2) : KX (B_run_799 N R_39 l2 s1 s2 s3 u) u := by
  unfold B_run_799
  refine KX_rd (fun _ => ?_)
  refine KX_rd (fun _ => ?_)
  refine KX_ok ?_
  refine KX_wr ?_
  exact (kx_B_run_1519 h_R_39).tr (fx_sB jw_rf)
theorem kx_B_run_771 {N : Nat} {R_39 : Int32 × RSt → Option (Int32 × RSt)} {l2 : Int32} {l3 : Int32} {l4 : Int32} {u : RSt} (h_R_39 : ∀ a, KX (R_39 a) a.2) : KX (B_run_771 N R_39 l2 l3 l4 u) u := by
  unfold B_run_771
  refine KX_rd (fun _ => ?_)
  refine KX_if ?_ ?_
  · skip
    exact (kx_B_run_799 h_R_39).tr jw_rf
  · skip
    exact (kx_B_run_799 h_R_39).tr jw_rf
theorem kx_B_run_747 {N : Nat} {R_39 : Int32 × RSt → Option (Int32 × RSt)} {l2 : Int32} {l3 : Int32} {l4 : Int32} {l5 : Int32} {u : RSt} (h_R_39 : ∀ a, KX (R_39 a) a.2) : KX (B_run_747 N R_39 l2 l3 l4 l5 u) u := by
  unfold B_run_747
  refine KX_rd (fun _ => ?_)
  refine KX_if ?_ ?_
  · skip
    refine KX_bn (kx_F_stops.tr jw_rf) (fun _ _ => ?_)
    exact (kx_B_run_1519 h_R_39).tr jw_rf
  · skip
    exact (kx_B_run_771 h_R_39).tr jw_rf
theorem kx_B_run_847 {N : Nat} {R_39 : Int32 × RSt → Option (Int32 × RSt)} {l2 : Int32} {s1 : Int32} {s2 : Int32} {u : RSt} (h_R_39 : ∀ a, KX (R_39 a) a.2) : KX (B_run_847 N R_39 l2 s1 s2 u) u := by
  unfold B_run_847
  refine KX_rd (fun _ => ?_)
  refine KX_wr ?_
  exact (kx_B_run_1519 h_R_39).tr (fx_sB jw_rf)
theorem kx_B_run_926 {N : Nat} {R_39 : Int32 × RSt → Option (Int32 × RSt)} {l2 : Int32} {s1 : Int32} {s2 : Int64} {u : RSt} (h_R_39 : ∀ a, KX (R_39 a) a.2) : KX (B_run_926 N R_39 l2 s1 s2 u) u := by
  unfold B_run_926
  refine KX_wr ?_
  exact (kx_B_run_1519 h_R_39).tr (fx_sB jw_rf)
theorem kx_B_run_1066 {N : Nat} {R_39 : Int32 × RSt → Option (Int32 × RSt)} {l2 : Int32} {s1 : Int32} {s2 : Int64} {u : RSt} (h_R_39 : ∀ a, KX (R_39 a) a.2) : KX (B_run_1066 N R_39 l2 s1 s2 u) u := by
  unfold B_run_1066
  refine KX_wr ?_
  exact (kx_B_run_1519 h_R_39).tr (fx_sB jw_rf)
theorem kx_B_run_1114 {N : Nat} {R_39 : Int32 × RSt → Option (Int32 × RSt)} {l2 : Int32} {s1 : Int32} {s2 : Int32} {s3 : Int32} {u : RSt} (h_R_39 : ∀ a, KX (R_39 a) a.2) : KX (B_run_1114 N R_39 l2 s1 s2 s3 u) u := by
  unfold B_run_1114
  refine KX_rd (fun _ => ?_)
  refine KX_rd (fun _ => ?_)
  refine KX_wr ?_
  exact (kx_B_run_1519 h_R_39).tr (fx_sB jw_rf)
theorem kx_B_run_1164 {N : Nat} {R_39 : Int32 × RSt → Option (Int32 × RSt)} {l2 : Int32} {s1 : Int32} {s2 : Int32} {s3 : Int32} {u : RSt} (h_R_39 : ∀ a, KX (R_39 a) a.2) : KX (B_run_1164 N R_39 l2 s1 s2 s3 u) u := by
  unfold B_run_1164
  refine KX_rd (fun _ => ?_)
  refine KX_wr ?_
  exact (kx_B_run_1519 h_R_39).tr (fx_sB jw_rf)
theorem kx_B_run_1141 {N : Nat} {R_39 : Int32 × RSt → Option (Int32 × RSt)} {l2 : Int32} {l4 : Int32} {l5 : Int32} {u : RSt} (h_R_39 : ∀ a, KX (R_39 a) a.2) : KX (B_run_1141 N R_39 l2 l4 l5 u) u := by
  unfold B_run_1141
  refine KX_if ?_ ?_
  · skip
    exact (kx_B_run_1164 h_R_39).tr jw_rf
  · skip
    exact (kx_B_run_1164 h_R_39).tr jw_rf
theorem kx_B_run_39 {N : Nat} {R_39 : Int32 × RSt → Option (Int32 × RSt)} {l2 : Int32} {u : RSt} (h_R_39 : ∀ a, KX (R_39 a) a.2) : KX (B_run_39 N R_39 l2 u) u := by
  unfold B_run_39
  refine KX_if ?_ ?_
  · skip
    exact KX_some jw_rf
  · skip
    refine KX_if ?_ ?_
    · skip
      refine KX_pu ?_
      refine KX_rd (fun _ => ?_)
      refine KX_rd (fun _ => ?_)
      refine KX_rd (fun _ => ?_)
      refine KX_if ?_ ?_
      · skip
        refine KX_if ?_ ?_
        · skip
          refine KX_bn (kx_F_stops.tr (fx_sI (by decide) jw_rf)) (fun _ _ => ?_)
          exact (kx_B_run_1519 h_R_39).tr jw_rf
        · skip
          refine KX_pu ?_
          exact (kx_B_run_1519 h_R_39).tr (fx_sI (by decide) (fx_sI (by decide) jw_rf))
      · skip
        refine KX_if ?_ ?_
        · skip
          refine KX_pu ?_
          refine KX_rd (fun _ => ?_)
          refine KX_wr ?_
          exact (kx_B_run_1519 h_R_39).tr (fx_sB (fx_sI (by decide) (fx_sI (by decide) jw_rf)))
        · skip
          refine KX_if ?_ ?_
          · skip
            refine KX_pu ?_
            refine KX_wr ?_
            exact (kx_B_run_1519 h_R_39).tr (fx_sB (fx_sI (by decide) (fx_sI (by decide) jw_rf)))
          · skip
            refine KX_if ?_ ?_
            · skip
              refine KX_pu ?_
              refine KX_wr ?_
              exact (kx_B_run_1519 h_R_39).tr (fx_sB (fx_sI (by decide) (fx_sI (by decide) jw_rf)))
            · skip
              refine KX_if ?_ ?_
              · skip
                refine KX_pu ?_
                refine KX_wr ?_
                exact (kx_B_run_1519 h_R_39).tr (fx_sB (fx_sI (by decide) (fx_sI (by decide) jw_rf)))
              · skip
                refine KX_if ?_ ?_
                · skip
                  refine KX_pu ?_
                  refine KX_wr ?_
                  exact (kx_B_run_1519 h_R_39).tr (fx_sB (fx_sI (by decide) (fx_sI (by decide) jw_rf)))
                · skip
                  refine KX_if ?_ ?_
                  · skip
                    refine KX_rd (fun _ => ?_)
                    refine KX_rd (fun _ => ?_)
                    refine KX_wr ?_
                    refine KX_pu ?_
                    exact (kx_B_run_1519 h_R_39).tr (fx_sI (by decide) (fx_sB (fx_sI (by decide) jw_rf)))
                  · skip
                    refine KX_if ?_ ?_
                    · skip
                      refine KX_rd (fun _ => ?_)
                      refine KX_if ?_ ?_
                      · skip
                        exact (kx_B_run_483 h_R_39).tr (fx_sI (by decide) jw_rf)
                      · skip
                        refine KX_rd (fun _ => ?_)
                        refine KX_if ?_ ?_
                        · skip
                          exact (kx_B_run_1519 h_R_39).tr (fx_sI (by decide) jw_rf)
                        · skip
                          exact (kx_B_run_483 h_R_39).tr (fx_sI (by decide) jw_rf)
                    · skip
                      refine KX_if ?_ ?_
                      · skip
                        refine KX_rd (fun _ => ?_)
                        refine KX_bn (kx_F_read.tr (fx_sI (by decide) jw_rf)) (fun _ _ => ?_)
                        refine KX_wr ?_
                        exact (kx_B_run_1519 h_R_39).tr (fx_sB jw_rf)
                      · skip
                        refine KX_if ?_ ?_
                        · skip
                          refine KX_rd (fun _ => ?_)
                          refine KX_bn (kx_F_read.tr (fx_sI (by decide) jw_rf)) (fun _ _ => ?_)
                          refine KX_wr ?_
                          refine KX_pu ?_
                          exact (kx_B_run_1519 h_R_39).tr (fx_sI (by decide) (fx_sB jw_rf))
                        · skip
                          refine KX_if ?_ ?_
                          · skip
                            refine KX_pu ?_
                            refine KX_rd (fun _ => ?_)
                            refine KX_rd (fun _ => ?_)
                            refine KX_bn (kx_F_write.tr (fx_sI (by decide) (fx_sI (by decide) jw_rf))) (fun _ _ => ?_)
                            exact (kx_B_run_1519 h_R_39).tr jw_rf
                          · skip
                            refine KX_if ?_ ?_
                            · skip
                              refine KX_pu ?_
                              refine KX_rd (fun _ => ?_)
                              refine KX_bn (kx_F_read.tr (fx_sI (by decide) (fx_sI (by decide) jw_rf))) (fun _ _ => ?_)
                              refine KX_rd (fun _ => ?_)
                              refine KX_rd (fun _ => ?_)
                              refine KX_if ?_ ?_
                              · skip
                                exact (kx_B_run_685 h_R_39).tr jw_rf
                              · skip
                                exact (kx_B_run_685 h_R_39).tr jw_rf
                            · skip
                              refine KX_if ?_ ?_
                              · skip
                                refine KX_rd (fun _ => ?_)
                                refine KX_wr ?_
                                exact (kx_B_run_1519 h_R_39).tr (fx_sB (fx_sI (by decide) jw_rf))
                              · skip
                                refine KX_if ?_ ?_
                                · skip
                                  refine KX_pu ?_
                                  refine KX_if ?_ ?_
                                  · skip
                                    exact (kx_B_run_747 h_R_39).tr (fx_sI (by decide) (fx_sI (by decide) jw_rf))
                                  · skip
                                    refine KX_if ?_ ?_
                                    · skip
                                      exact (kx_B_run_747 h_R_39).tr (fx_sI (by decide) (fx_sI (by decide) jw_rf))
                                    · skip
                                      exact (kx_B_run_771 h_R_39).tr (fx_sI (by decide) (fx_sI (by decide) jw_rf))
                                · skip
                                  refine KX_if ?_ ?_
                                  · skip
                                    refine KX_if ?_ ?_
                                    · skip
                                      exact (kx_B_run_847 h_R_39).tr (fx_sI (by decide) jw_rf)
                                    · skip
                                      exact (kx_B_run_847 h_R_39).tr (fx_sI (by decide) jw_rf)
                                  · skip
                                    refine KX_if ?_ ?_
                                    · skip
                                      refine KX_rd (fun _ => ?_)
                                      refine KX_wr ?_
                                      exact (kx_B_run_1519 h_R_39).tr (fx_sB (fx_sI (by decide) jw_rf))
                                    · skip
                                      refine KX_if ?_ ?_
                                      · skip
                                        refine KX_rd (fun _ => ?_)
                                        refine KX_if ?_ ?_
                                        · skip
                                          exact (kx_B_run_926 h_R_39).tr (fx_sI (by decide) jw_rf)
                                        · skip
                                          exact (kx_B_run_926 h_R_39).tr (fx_sI (by decide) jw_rf)
                                      · skip
                                        refine KX_if ?_ ?_
                                        · skip
                                          refine KX_rd (fun _ => ?_)
                                          refine KX_wr ?_
                                          exact (kx_B_run_1519 h_R_39).tr (fx_sB (fx_sI (by decide) jw_rf))
                                        · skip
                                          refine KX_if ?_ ?_
                                          · skip
                                            refine KX_pu ?_
                                            refine KX_rd (fun _ => ?_)
                                            refine KX_if ?_ ?_
                                            · skip
                                              refine KX_pu ?_
                                              exact (kx_B_run_1519 h_R_39).tr (fx_sI (by decide) (fx_sI (by decide) (fx_sI (by decide) jw_rf)))
                                            · skip
                                              exact (kx_B_run_1519 h_R_39).tr (fx_sI (by decide) (fx_sI (by decide) jw_rf))
                                          · skip
                                            refine KX_if ?_ ?_
                                            · skip
                                              refine KX_pu ?_
                                              refine KX_rd (fun _ => ?_)
                                              refine KX_if ?_ ?_
                                              · skip
                                                exact (kx_B_run_1519 h_R_39).tr (fx_sI (by decide) (fx_sI (by decide) jw_rf))
                                              · skip
                                                refine KX_pu ?_
                                                exact (kx_B_run_1519 h_R_39).tr (fx_sI (by decide) (fx_sI (by decide) (fx_sI (by decide) jw_rf)))
                                            · skip
                                              refine KX_if ?_ ?_
                                              · skip
                                                refine KX_pu ?_
                                                exact (kx_B_run_1519 h_R_39).tr (fx_sI (by decide) (fx_sI (by decide) jw_rf))
                                              · skip
                                                refine KX_if ?_ ?_
                                                · skip
                                                  refine KX_rd (fun _ => ?_)
                                                  refine KX_if ?_ ?_
                                                  · skip
                                                    exact (kx_B_run_1066 h_R_39).tr (fx_sI (by decide) jw_rf)
                                                  · skip
                                                    exact (kx_B_run_1066 h_R_39).tr (fx_sI (by decide) jw_rf)
                                                · skip
                                                  refine KX_if ?_ ?_
                                                  · skip
                                                    refine KX_if ?_ ?_
                                                    · skip
                                                      exact (kx_B_run_1141 h_R_39).tr (fx_sI (by decide) jw_rf)
                                                    · skip
                                                      refine KX_if ?_ ?_
                                                      · skip
                                                        exact (kx_B_run_1141 h_R_39).tr (fx_sI (by decide) jw_rf)
                                                      · skip
                                                        refine KX_pu ?_
                                                        refine KX_if ?_ ?_
                                                        · skip
                                                          exact (kx_B_run_1114 h_R_39).tr (fx_sI (by decide) (fx_sI (by decide) jw_rf))
                                                        · skip
                                                          exact (kx_B_run_1114 h_R_39).tr (fx_sI (by decide) (fx_sI (by decide) jw_rf))
                                                  · skip
                                                    refine KX_if ?_ ?_
                                                    · skip
                                                      refine KX_bn (kx_F_mayCall.tr (fx_sI (by decide) jw_rf)) (fun _ _ => ?_)
                                                      refine KX_if ?_ ?_
                                                      · skip
                                                        exact (kx_B_run_1519 h_R_39).tr jw_rf
                                                      · skip
                                                        refine KX_bn (kx_F_enter.tr jw_rf) (fun _ _ => ?_)
                                                        exact (kx_B_run_1519 h_R_39).tr jw_rf
                                                    · skip
                                                      refine KX_if ?_ ?_
                                                      · skip
                                                        refine KX_bn (kx_F_mayCall.tr (fx_sI (by decide) jw_rf)) (fun _ _ => ?_)
                                                        refine KX_if ?_ ?_
                                                        · skip
                                                          exact (kx_B_run_1519 h_R_39).tr jw_rf
                                                        · skip
                                                          refine KX_wr ?_
                                                          refine KX_pu ?_
                                                          refine KX_rd (fun _ => ?_)
                                                          refine KX_pu ?_
                                                          refine KX_rd (fun _ => ?_)
                                                          refine KX_rd (fun _ => ?_)
                                                          refine KX_pu ?_
                                                          exact (kx_B_run_1519 h_R_39).tr (fx_sI (by decide) (fx_sI (by decide) (fx_sI (by decide) (fx_sA (by decide) jw_rf))))
                                                      · skip
                                                        refine KX_if ?_ ?_
                                                        · skip
                                                          refine KX_if ?_ ?_
                                                          · skip
                                                            exact (kx_B_run_1519 h_R_39).tr (fx_sI (by decide) jw_rf)
                                                          · skip
                                                            refine KX_bn (kx_F_leave.tr (fx_sI (by decide) jw_rf)) (fun _ _ => ?_)
                                                            exact (kx_B_run_1519 h_R_39).tr jw_rf
                                                        · skip
                                                          refine KX_if ?_ ?_
                                                          · skip
                                                            refine KX_rd (fun _ => ?_)
                                                            refine KX_bn (kx_F_leave.tr (fx_sI (by decide) jw_rf)) (fun _ _ => ?_)
                                                            refine KX_pu ?_
                                                            refine KX_wr ?_
                                                            exact (kx_B_run_1519 h_R_39).tr (fx_sB (fx_sI (by decide) jw_rf))
                                                          · skip
                                                            refine KX_if ?_ ?_
                                                            · skip
                                                              refine KX_pu ?_
                                                              refine KX_rd (fun _ => ?_)
                                                              refine KX_pu ?_
                                                              refine KX_bn (kx_F_stops.tr (fx_sL (fx_sI (by decide) (fx_sI (by decide) jw_rf)))) (fun _ _ => ?_)
                                                              exact (kx_B_run_1519 h_R_39).tr jw_rf
                                                            · skip
                                                              refine KX_if ?_ ?_
                                                              · skip
                                                                refine KX_rd (fun _ => ?_)
                                                                refine KX_rd (fun _ => ?_)
                                                                refine KX_if ?_ ?_
                                                                · skip
                                                                  exact (kx_B_run_1519 h_R_39).tr (fx_sI (by decide) jw_rf)
                                                                · skip
                                                                  refine KX_rd (fun _ => ?_)
                                                                  refine KX_rd (fun _ => ?_)
                                                                  refine KX_if ?_ ?_
                                                                  · skip
                                                                    exact (kx_B_run_1519 h_R_39).tr (fx_sI (by decide) jw_rf)
                                                                  · skip
                                                                    refine KX_pu ?_
                                                                    refine KX_pu ?_
                                                                    exact (kx_B_run_1519 h_R_39).tr (fx_sI (by decide) (fx_sI (by decide) (fx_sI (by decide) jw_rf)))
                                                              · skip
                                                                refine KX_if ?_ ?_
                                                                · skip
                                                                  refine KX_pu ?_
                                                                  exact (kx_B_run_1519 h_R_39).tr (fx_sI (by decide) (fx_sI (by decide) jw_rf))
                                                                · skip
                                                                  refine KX_if ?_ ?_
                                                                  · skip
                                                                    refine KX_pu ?_
                                                                    refine KX_rd (fun _ => ?_)
                                                                    refine KX_rd (fun _ => ?_)
                                                                    refine KX_if ?_ ?_
                                                                    · skip
                                                                      exact (kx_B_run_1519 h_R_39).tr (fx_sI (by decide) (fx_sI (by decide) jw_rf))
                                                                    · skip
                                                                      refine KX_pu ?_
                                                                      exact (kx_B_run_1519 h_R_39).tr (fx_sI (by decide) (fx_sI (by decide) (fx_sI (by decide) jw_rf)))
                                                                  · skip
                                                                    refine KX_pu ?_
                                                                    refine KX_rd (fun _ => ?_)
                                                                    refine KX_rd (fun _ => ?_)
                                                                    refine KX_if ?_ ?_
                                                                    · skip
                                                                      refine KX_pu ?_
                                                                      exact (kx_B_run_1519 h_R_39).tr (fx_sI (by decide) (fx_sI (by decide) (fx_sI (by decide) jw_rf)))
                                                                    · skip
                                                                      exact (kx_B_run_1519 h_R_39).tr (fx_sI (by decide) (fx_sI (by decide) jw_rf))
    · skip
      exact KX_some jw_rf
theorem kx_LP_run_39 {N : Nat}  (n : Nat) : ∀ a : Int32 × RSt, KX (LP_run_39 N n a) a.2 := by
  induction n with
  | zero => exact fun a r z e => by have e : (none : Option _) = some (r, z) := e; cases e
  | succ n ih =>
    intro a
    show KX (B_run_39 N (LP_run_39 N n) a.1 a.2) a.2
    exact kx_B_run_39 ih
theorem kx_B_run_0 {N : Nat} {l1 : Int32} {u : RSt}  : KX (B_run_0 N l1 u) u := by
  unfold B_run_0
  refine KX_pu ?_
  refine KX_pu ?_
  refine KX_pu ?_
  refine KX_pu ?_
  refine KX_pu ?_
  refine KX_pu ?_
  refine KX_pu ?_
  exact (kx_LP_run_39  _ _).tr (fx_sI (by decide) (fx_sI (by decide) (fx_sI (by decide) (fx_sI (by decide) (fx_sI (by decide) (fx_sI (by decide) (fx_sI (by decide) jw_rf)))))))
theorem kx_F_run {N : Nat} {l1 : Int32} {u : RSt}  : KX (F_run N l1 u) u := by
  unfold F_run
  exact kx_B_run_0.tr jw_rf
theorem kx_B_runTask_0 {N : Nat} {l1 : Int32} {u : RSt}  : KX (B_runTask_0 N l1 u) u := by
  unfold B_runTask_0
  refine KX_rd (fun _ => ?_)
  refine KX_wr ?_
  refine KX_rd (fun _ => ?_)
  refine KX_bn (kx_F_run.tr (fx_sA (by decide) jw_rf)) (fun _ _ => ?_)
  refine KX_wr ?_
  refine KX_if ?_ ?_
  · skip
    exact KX_some (fx_sA (by decide) jw_rf)
  · skip
    refine KX_wr ?_
    refine KX_wr ?_
    refine KX_wr ?_
    refine KX_wr ?_
    refine KX_if ?_ ?_
    · skip
      refine KX_wr ?_
      exact KX_some (fx_sA (by decide) (fx_sA (by decide) (fx_sA (by decide) (fx_sA (by decide) (fx_sA (by decide) (fx_sA (by decide) jw_rf))))))
    · skip
      refine KX_wr ?_
      exact KX_some (fx_sA (by decide) (fx_sA (by decide) (fx_sA (by decide) (fx_sA (by decide) (fx_sA (by decide) (fx_sA (by decide) jw_rf))))))
theorem kx_F_runTask {N : Nat} {l1 : Int32} {u : RSt}  : KX (F_runTask N l1 u) u := by
  unfold F_runTask
  exact kx_B_runTask_0.tr jw_rf
theorem kx_B_forces_2 {N : Nat} {R_2 : Int32 × Int32 × RSt → Option (Int32 × RSt)} {l1 : Int32} {l2 : Int32} {u : RSt} (h_R_2 : ∀ a, KX (R_2 a) a.2.2) : KX (B_forces_2 N R_2 l1 l2 u) u := by
  unfold B_forces_2
  refine KX_if ?_ ?_
  · skip
    exact KX_some jw_rf
  · skip
    refine KX_rd (fun _ => ?_)
    refine KX_rd (fun _ => ?_)
    refine KX_rd (fun _ => ?_)
    refine KX_wr ?_
    exact (h_R_2 _).tr (fx_sA (by decide) jw_rf)
theorem kx_LP_forces_2 {N : Nat}  (n : Nat) : ∀ a : Int32 × Int32 × RSt, KX (LP_forces_2 N n a) a.2.2 := by
  induction n with
  | zero => exact fun a r z e => by have e : (none : Option _) = some (r, z) := e; cases e
  | succ n ih =>
    intro a
    show KX (B_forces_2 N (LP_forces_2 N n) a.1 a.2.1 a.2.2) a.2.2
    exact kx_B_forces_2 ih
theorem kx_B_forces_0 {N : Nat} {l1 : Int32} {u : RSt}  : KX (B_forces_0 N l1 u) u := by
  unfold B_forces_0
  exact (kx_LP_forces_2  _ _).tr jw_rf
theorem kx_F_forces {N : Nat} {l1 : Int32} {u : RSt}  : KX (F_forces N l1 u) u := by
  unfold F_forces
  exact kx_B_forces_0.tr jw_rf
theorem kx_B_numberOf_0 {N : Nat} {l1 : Int32} {l2 : Int32} {u : RSt}  : KX (B_numberOf_0 N l1 l2 u) u := by
  unfold B_numberOf_0
  refine KX_rd (fun _ => ?_)
  refine KX_if ?_ ?_
  · skip
    refine KX_rd (fun _ => ?_)
    refine KX_rd (fun _ => ?_)
    refine KX_bn (kx_F_read.tr jw_rf) (fun _ _ => ?_)
    exact KX_some jw_rf
  · skip
    refine KX_rd (fun _ => ?_)
    refine KX_rd (fun _ => ?_)
    exact KX_some jw_rf
theorem kx_F_numberOf {N : Nat} {l1 : Int32} {l2 : Int32} {u : RSt}  : KX (F_numberOf N l1 l2 u) u := by
  unfold F_numberOf
  exact kx_B_numberOf_0.tr jw_rf
theorem kx_B_ticks_104 {N : Nat} {R_35 : Int32 × Int32 × RSt → Option (Int32 × RSt)} {l1 : Int32} {l2 : Int32} {u : RSt} (h_R_35 : ∀ a, KX (R_35 a) a.2.2) : KX (B_ticks_104 N R_35 l1 l2 u) u := by
  unfold B_ticks_104
  exact (h_R_35 _).tr jw_rf
theorem kx_B_ticks_331 {N : Nat} {R_146 : Int32 × Int32 × RSt → Option (Int32 × RSt)} {l1 : Int32} {l2 : Int32} {u : RSt} (h_R_146 : ∀ a, KX (R_146 a) a.2.2) : KX (B_ticks_331 N R_146 l1 l2 u) u := by
  unfold B_ticks_331
  exact (h_R_146 _).tr jw_rf
theorem kx_B_ticks_196 {N : Nat} {R_146 : Int32 × Int32 × RSt → Option (Int32 × RSt)} {R_196 : Int32 × Int32 × Int64 × Int32 × RSt → Option (Int32 × RSt)} {l1 : Int32} {l2 : Int32} {l3 : Int64} {l5 : Int32} {u : RSt} (h_R_146 : ∀ a, KX (R_146 a) a.2.2) (h_R_196 : ∀ a, KX (R_196 a) a.2.2.2.2) : KX (B_ticks_196 N R_146 R_196 l1 l2 l3 l5 u) u := by
  unfold B_ticks_196
  refine KX_if ?_ ?_
  · skip
    refine KX_wr ?_
    refine KX_rd (fun _ => ?_)
    refine KX_wr ?_
    refine KX_rd (fun _ => ?_)
    refine KX_wr ?_
    refine KX_wr ?_
    refine KX_if ?_ ?_
    · skip
      exact (kx_B_ticks_331 h_R_146).tr (fx_sB (fx_sA (by decide) (fx_sA (by decide) (fx_sA (by decide) jw_rf))))
    · skip
      refine KX_pu ?_
      exact (kx_B_ticks_331 h_R_146).tr (fx_sI (by decide) (fx_sB (fx_sA (by decide) (fx_sA (by decide) (fx_sA (by decide) jw_rf)))))
  · skip
    refine KX_rd (fun _ => ?_)
    refine KX_wr ?_
    refine KX_rd (fun _ => ?_)
    refine KX_wr ?_
    refine KX_rd (fun _ => ?_)
    refine KX_wr ?_
    refine KX_rd (fun _ => ?_)
    refine KX_wr ?_
    exact (h_R_196 _).tr (fx_sB (fx_sA (by decide) (fx_sA (by decide) (fx_sA (by decide) jw_rf))))
theorem kx_LP_ticks_196 {N : Nat} {R_146 : Int32 × Int32 × RSt → Option (Int32 × RSt)} (h_R_146 : ∀ a, KX (R_146 a) a.2.2) (n : Nat) : ∀ a : Int32 × Int32 × Int64 × Int32 × RSt, KX (LP_ticks_196 N R_146 n a) a.2.2.2.2 := by
  induction n with
  | zero => exact fun a r z e => by have e : (none : Option _) = some (r, z) := e; cases e
  | succ n ih =>
    intro a
    show KX (B_ticks_196 N R_146 (LP_ticks_196 N R_146 n) a.1 a.2.1 a.2.2.1 a.2.2.2.1 a.2.2.2.2) a.2.2.2.2
    exact kx_B_ticks_196 h_R_146 ih
theorem kx_B_ticks_146 {N : Nat} {R_146 : Int32 × Int32 × RSt → Option (Int32 × RSt)} {l1 : Int32} {l2 : Int32} {u : RSt} (h_R_146 : ∀ a, KX (R_146 a) a.2.2) : KX (B_ticks_146 N R_146 l1 l2 u) u := by
  unfold B_ticks_146
  refine KX_if ?_ ?_
  · skip
    refine KX_pu ?_
    exact KX_some (fx_sI (by decide) jw_rf)
  · skip
    refine KX_rd (fun _ => ?_)
    refine KX_rd (fun _ => ?_)
    refine KX_bn (kx_F_numberOf.tr jw_rf) (fun _ _ => ?_)
    refine KX_rd (fun _ => ?_)
    refine KX_if ?_ ?_
    · skip
      exact (kx_B_ticks_331 h_R_146).tr jw_rf
    · skip
      refine KX_wr ?_
      exact (kx_LP_ticks_196 h_R_146 _ _).tr (fx_sB jw_rf)
theorem kx_LP_ticks_146 {N : Nat}  (n : Nat) : ∀ a : Int32 × Int32 × RSt, KX (LP_ticks_146 N n a) a.2.2 := by
  induction n with
  | zero => exact fun a r z e => by have e : (none : Option _) = some (r, z) := e; cases e
  | succ n ih =>
    intro a
    show KX (B_ticks_146 N (LP_ticks_146 N n) a.1 a.2.1 a.2.2) a.2.2
    exact kx_B_ticks_146 ih
theorem kx_B_ticks_119 {N : Nat} {R_119 : Int32 × Int32 × RSt → Option (Int32 × RSt)} {l1 : Int32} {l2 : Int32} {u : RSt} (h_R_119 : ∀ a, KX (R_119 a) a.2.2) : KX (B_ticks_119 N R_119 l1 l2 u) u := by
  unfold B_ticks_119
  refine KX_if ?_ ?_
  · skip
    exact (kx_LP_ticks_146  _ _).tr jw_rf
  · skip
    refine KX_rd (fun _ => ?_)
    refine KX_wr ?_
    exact (h_R_119 _).tr (fx_sA (by decide) jw_rf)
theorem kx_LP_ticks_119 {N : Nat}  (n : Nat) : ∀ a : Int32 × Int32 × RSt, KX (LP_ticks_119 N n a) a.2.2 := by
  induction n with
  | zero => exact fun a r z e => by have e : (none : Option _) = some (r, z) := e; cases e
  | succ n ih =>
    intro a
    show KX (B_ticks_119 N (LP_ticks_119 N n) a.1 a.2.1 a.2.2) a.2.2
    exact kx_B_ticks_119 ih
theorem kx_B_ticks_35 {N : Nat} {R_35 : Int32 × Int32 × RSt → Option (Int32 × RSt)} {l1 : Int32} {l2 : Int32} {u : RSt} (h_R_35 : ∀ a, KX (R_35 a) a.2.2) : KX (B_ticks_35 N R_35 l1 l2 u) u := by
  unfold B_ticks_35
  refine KX_rd (fun _ => ?_)
  refine KX_if ?_ ?_
  · skip
    refine KX_bn (kx_F_forces.tr jw_rf) (fun _ _ => ?_)
    exact (kx_LP_ticks_119  _ _).tr jw_rf
  · skip
    refine KX_rd (fun _ => ?_)
    refine KX_if ?_ ?_
    · skip
      refine KX_rd (fun _ => ?_)
      refine KX_nz ?_
      refine KX_rd (fun _ => ?_)
      refine KX_if ?_ ?_
      · skip
        refine KX_bn (kx_F_runTask.tr jw_rf) (fun _ _ => ?_)
        exact (kx_B_ticks_104 h_R_35).tr jw_rf
      · skip
        exact (kx_B_ticks_104 h_R_35).tr jw_rf
    · skip
      exact (kx_B_ticks_104 h_R_35).tr jw_rf
theorem kx_LP_ticks_35 {N : Nat}  (n : Nat) : ∀ a : Int32 × Int32 × RSt, KX (LP_ticks_35 N n a) a.2.2 := by
  induction n with
  | zero => exact fun a r z e => by have e : (none : Option _) = some (r, z) := e; cases e
  | succ n ih =>
    intro a
    show KX (B_ticks_35 N (LP_ticks_35 N n) a.1 a.2.1 a.2.2) a.2.2
    exact kx_B_ticks_35 ih
theorem kx_B_ticks_4 {N : Nat} {R_4 : Int32 × Int32 × RSt → Option (Int32 × RSt)} {l1 : Int32} {l2 : Int32} {u : RSt} (h_R_4 : ∀ a, KX (R_4 a) a.2.2) : KX (B_ticks_4 N R_4 l1 l2 u) u := by
  unfold B_ticks_4
  refine KX_if ?_ ?_
  · skip
    refine KX_bn (kx_F_forces.tr jw_rf) (fun _ _ => ?_)
    exact (kx_LP_ticks_35  _ _).tr jw_rf
  · skip
    refine KX_rd (fun _ => ?_)
    refine KX_wr ?_
    exact (h_R_4 _).tr (fx_sA (by decide) jw_rf)
theorem kx_LP_ticks_4 {N : Nat}  (n : Nat) : ∀ a : Int32 × Int32 × RSt, KX (LP_ticks_4 N n a) a.2.2 := by
  induction n with
  | zero => exact fun a r z e => by have e : (none : Option _) = some (r, z) := e; cases e
  | succ n ih =>
    intro a
    show KX (B_ticks_4 N (LP_ticks_4 N n) a.1 a.2.1 a.2.2) a.2.2
    exact kx_B_ticks_4 ih
theorem kx_B_ticks_0 {N : Nat} {u : RSt}  : KX (B_ticks_0 N u) u := by
  unfold B_ticks_0
  exact (kx_LP_ticks_4  _ _).tr jw_rf
theorem kx_F_ticks {N : Nat} {u : RSt}  : KX (F_ticks N u) u := by
  unfold F_ticks
  exact kx_B_ticks_0.tr jw_rf
theorem kx_B_anew_81 {N : Nat} {R_8 : Int32 × RSt → Option (Int32 × RSt)} {R_52 : Int32 × Int32 × Int32 × RSt → Option (Int32 × RSt)} {R_81 : Int32 × Int32 × Int32 × Int32 × RSt → Option (Int32 × RSt)} {l1 : Int32} {l2 : Int32} {l3 : Int32} {l4 : Int32} {u : RSt} (h_R_8 : ∀ a, KX (R_8 a) a.2) (h_R_52 : ∀ a, KX (R_52 a) a.2.2.2) (h_R_81 : ∀ a, KX (R_81 a) a.2.2.2.2) : KX (B_anew_81 N R_8 R_52 R_81 l1 l2 l3 l4 u) u := by
  unfold B_anew_81
  refine KX_rd (fun _ => ?_)
  refine KX_if ?_ ?_
  · skip
    exact (h_R_52 _).tr jw_rf
  · skip
    refine KX_rd (fun _ => ?_)
    refine KX_rd (fun _ => ?_)
    refine KX_rd (fun _ => ?_)
    refine KX_wr ?_
    exact (h_R_81 _).tr (fx_sB jw_rf)
theorem kx_LP_anew_81 {N : Nat} {R_8 : Int32 × RSt → Option (Int32 × RSt)} {R_52 : Int32 × Int32 × Int32 × RSt → Option (Int32 × RSt)} (h_R_8 : ∀ a, KX (R_8 a) a.2) (h_R_52 : ∀ a, KX (R_52 a) a.2.2.2) (n : Nat) : ∀ a : Int32 × Int32 × Int32 × Int32 × RSt, KX (LP_anew_81 N R_8 R_52 n a) a.2.2.2.2 := by
  induction n with
  | zero => exact fun a r z e => by have e : (none : Option _) = some (r, z) := e; cases e
  | succ n ih =>
    intro a
    show KX (B_anew_81 N R_8 R_52 (LP_anew_81 N R_8 R_52 n) a.1 a.2.1 a.2.2.1 a.2.2.2.1 a.2.2.2.2) a.2.2.2.2
    exact kx_B_anew_81 h_R_8 h_R_52 ih
theorem kx_B_anew_52 {N : Nat} {R_8 : Int32 × RSt → Option (Int32 × RSt)} {R_52 : Int32 × Int32 × Int32 × RSt → Option (Int32 × RSt)} {l1 : Int32} {l2 : Int32} {l3 : Int32} {u : RSt} (h_R_8 : ∀ a, KX (R_8 a) a.2) (h_R_52 : ∀ a, KX (R_52 a) a.2.2.2) : KX (B_anew_52 N R_8 R_52 l1 l2 l3 u) u := by
  unfold B_anew_52
  refine KX_rd (fun _ => ?_)
  refine KX_rd (fun _ => ?_)
  refine KX_if ?_ ?_
  · skip
    exact (h_R_8 _).tr jw_rf
  · skip
    exact (kx_LP_anew_81 h_R_8 h_R_52 _ _).tr jw_rf
theorem kx_LP_anew_52 {N : Nat} {R_8 : Int32 × RSt → Option (Int32 × RSt)} (h_R_8 : ∀ a, KX (R_8 a) a.2) (n : Nat) : ∀ a : Int32 × Int32 × Int32 × RSt, KX (LP_anew_52 N R_8 n a) a.2.2.2 := by
  induction n with
  | zero => exact fun a r z e => by have e : (none : Option _) = some (r, z) := e; cases e
  | succ n ih =>
    intro a
    show KX (B_anew_52 N R_8 (LP_anew_52 N R_8 n) a.1 a.2.1 a.2.2.1 a.2.2.2) a.2.2.2
    exact kx_B_anew_52 h_R_8 ih
theorem kx_B_anew_139 {N : Nat} {R_139 : Int32 × RSt → Option (Int32 × RSt)} {l1 : Int32} {u : RSt} (h_R_139 : ∀ a, KX (R_139 a) a.2) : KX (B_anew_139 N R_139 l1 u) u := by
  unfold B_anew_139
  refine KX_if ?_ ?_
  · skip
    exact KX_some jw_rf
  · skip
    refine KX_wr ?_
    exact (h_R_139 _).tr (fx_sA (by decide) jw_rf)
theorem kx_LP_anew_139 {N : Nat}  (n : Nat) : ∀ a : Int32 × RSt, KX (LP_anew_139 N n a) a.2 := by
  induction n with
  | zero => exact fun a r z e => by have e : (none : Option _) = some (r, z) := e; cases e
  | succ n ih =>
    intro a
    show KX (B_anew_139 N (LP_anew_139 N n) a.1 a.2) a.2
    exact kx_B_anew_139 ih
theorem kx_B_anew_8 {N : Nat} {R_8 : Int32 × RSt → Option (Int32 × RSt)} {l1 : Int32} {u : RSt} (h_R_8 : ∀ a, KX (R_8 a) a.2) : KX (B_anew_8 N R_8 l1 u) u := by
  unfold B_anew_8
  refine KX_rd (fun _ => ?_)
  refine KX_if ?_ ?_
  · skip
    exact (kx_LP_anew_139  _ _).tr jw_rf
  · skip
    refine KX_rd (fun _ => ?_)
    refine KX_rd (fun _ => ?_)
    exact (kx_LP_anew_52 h_R_8 _ _).tr jw_rf
theorem kx_LP_anew_8 {N : Nat}  (n : Nat) : ∀ a : Int32 × RSt, KX (LP_anew_8 N n a) a.2 := by
  induction n with
  | zero => exact fun a r z e => by have e : (none : Option _) = some (r, z) := e; cases e
  | succ n ih =>
    intro a
    show KX (B_anew_8 N (LP_anew_8 N n) a.1 a.2) a.2
    exact kx_B_anew_8 ih
theorem kx_B_anew_0 {N : Nat} {u : RSt}  : KX (B_anew_0 N u) u := by
  unfold B_anew_0
  exact (kx_LP_anew_8  _ _).tr jw_rf
theorem kx_F_anew {N : Nat} {u : RSt}  : KX (F_anew N u) u := by
  unfold F_anew
  exact kx_B_anew_0.tr jw_rf
theorem kx_B_begin_7 {N : Nat} {R_7 : Int32 × RSt → Option (Int32 × RSt)} {l1 : Int32} {u : RSt} (h_R_7 : ∀ a, KX (R_7 a) a.2) : KX (B_begin_7 N R_7 l1 u) u := by
  unfold B_begin_7
  refine KX_if ?_ ?_
  · skip
    exact KX_some jw_rf
  · skip
    refine KX_wr ?_
    exact (h_R_7 _).tr (fx_sA (by decide) jw_rf)
theorem kx_LP_begin_7 {N : Nat}  (n : Nat) : ∀ a : Int32 × RSt, KX (LP_begin_7 N n a) a.2 := by
  induction n with
  | zero => exact fun a r z e => by have e : (none : Option _) = some (r, z) := e; cases e
  | succ n ih =>
    intro a
    show KX (B_begin_7 N (LP_begin_7 N n) a.1 a.2) a.2
    exact kx_B_begin_7 ih
theorem kx_B_begin_0 {N : Nat} {u : RSt}  : KX (B_begin_0 N u) u := by
  unfold B_begin_0
  refine KX_pu ?_
  exact (kx_LP_begin_7  _ _).tr (fx_sI (by decide) jw_rf)
theorem kx_F_begin {N : Nat} {u : RSt}  : KX (F_begin N u) u := by
  unfold F_begin
  exact kx_B_begin_0.tr jw_rf
theorem kx_B_scan_23 {N : Nat} {R_23 : Int32 × Int32 × Int32 × RSt → Option (Int32 × RSt)} {l1 : Int32} {l2 : Int32} {l3 : Int32} {u : RSt} (h_R_23 : ∀ a, KX (R_23 a) a.2.2.2) : KX (B_scan_23 N R_23 l1 l2 l3 u) u := by
  unfold B_scan_23
  refine KX_if ?_ ?_
  · skip
    exact KX_some jw_rf
  · skip
    refine KX_if ?_ ?_
    · skip
      refine KX_bn (kx_F_ticks.tr jw_rf) (fun _ _ => ?_)
      exact (h_R_23 _).tr jw_rf
    · skip
      exact KX_some jw_rf
theorem kx_LP_scan_23 {N : Nat}  (n : Nat) : ∀ a : Int32 × Int32 × Int32 × RSt, KX (LP_scan_23 N n a) a.2.2.2 := by
  induction n with
  | zero => exact fun a r z e => by have e : (none : Option _) = some (r, z) := e; cases e
  | succ n ih =>
    intro a
    show KX (B_scan_23 N (LP_scan_23 N n) a.1 a.2.1 a.2.2.1 a.2.2.2) a.2.2.2
    exact kx_B_scan_23 ih
theorem kx_B_scan_16 {N : Nat} {l1 : Int32} {s1 : Int32} {u : RSt}  : KX (B_scan_16 N l1 s1 u) u := by
  unfold B_scan_16
  refine KX_pu ?_
  exact (kx_LP_scan_23  _ _).tr (fx_sI (by decide) jw_rf)
theorem kx_B_scan_0 {N : Nat} {l1 : Int32} {u : RSt}  : KX (B_scan_0 N l1 u) u := by
  unfold B_scan_0
  refine KX_if ?_ ?_
  · skip
    exact kx_B_scan_16.tr jw_rf
  · skip
    exact kx_B_scan_16.tr jw_rf
theorem kx_F_scan {N : Nat} {l1 : Int32} {u : RSt}  : KX (F_scan N l1 u) u := by
  unfold F_scan
  exact kx_B_scan_0.tr jw_rf
theorem kx_B_power_82 {N : Nat} {R_14 : Int32 × RSt → Option (Int32 × RSt)} {l1 : Int32} {u : RSt} (h_R_14 : ∀ a, KX (R_14 a) a.2) : KX (B_power_82 N R_14 l1 u) u := by
  unfold B_power_82
  exact (h_R_14 _).tr jw_rf
theorem kx_B_power_38 {N : Nat} {R_14 : Int32 × RSt → Option (Int32 × RSt)} {R_38 : Int32 × Int32 × RSt → Option (Int32 × RSt)} {l1 : Int32} {l2 : Int32} {u : RSt} (h_R_14 : ∀ a, KX (R_14 a) a.2) (h_R_38 : ∀ a, KX (R_38 a) a.2.2) : KX (B_power_38 N R_14 R_38 l1 l2 u) u := by
  unfold B_power_38
  refine KX_rd (fun _ => ?_)
  refine KX_if ?_ ?_
  · skip
    exact (kx_B_power_82 h_R_14).tr jw_rf
  · skip
    refine KX_rd (fun _ => ?_)
    refine KX_if ?_ ?_
    · skip
      refine KX_rd (fun _ => ?_)
      refine KX_rd (fun _ => ?_)
      refine KX_wr ?_
      exact (h_R_38 _).tr (fx_sB jw_rf)
    · skip
      exact (kx_B_power_82 h_R_14).tr jw_rf
theorem kx_LP_power_38 {N : Nat} {R_14 : Int32 × RSt → Option (Int32 × RSt)} (h_R_14 : ∀ a, KX (R_14 a) a.2) (n : Nat) : ∀ a : Int32 × Int32 × RSt, KX (LP_power_38 N R_14 n a) a.2.2 := by
  induction n with
  | zero => exact fun a r z e => by have e : (none : Option _) = some (r, z) := e; cases e
  | succ n ih =>
    intro a
    show KX (B_power_38 N R_14 (LP_power_38 N R_14 n) a.1 a.2.1 a.2.2) a.2.2
    exact kx_B_power_38 h_R_14 ih
theorem kx_B_power_14 {N : Nat} {R_14 : Int32 × RSt → Option (Int32 × RSt)} {l1 : Int32} {u : RSt} (h_R_14 : ∀ a, KX (R_14 a) a.2) : KX (B_power_14 N R_14 l1 u) u := by
  unfold B_power_14
  refine KX_rd (fun _ => ?_)
  refine KX_if ?_ ?_
  · skip
    refine KX_bn (kx_F_anew.tr jw_rf) (fun _ _ => ?_)
    refine KX_bn (kx_F_begin.tr jw_rf) (fun _ _ => ?_)
    exact KX_some jw_rf
  · skip
    exact (kx_LP_power_38 h_R_14 _ _).tr jw_rf
theorem kx_LP_power_14 {N : Nat}  (n : Nat) : ∀ a : Int32 × RSt, KX (LP_power_14 N n a) a.2 := by
  induction n with
  | zero => exact fun a r z e => by have e : (none : Option _) = some (r, z) := e; cases e
  | succ n ih =>
    intro a
    show KX (B_power_14 N (LP_power_14 N n) a.1 a.2) a.2
    exact kx_B_power_14 ih
theorem kx_B_power_0 {N : Nat} {u : RSt}  : KX (B_power_0 N u) u := by
  unfold B_power_0
  refine KX_pu ?_
  exact (kx_LP_power_14  _ _).tr (fx_sI (by decide) jw_rf)
theorem kx_F_power {N : Nat} {u : RSt}  : KX (F_power N u) u := by
  unfold F_power
  exact kx_B_power_0.tr jw_rf
theorem kx_B_hasByte_16 {N : Nat} {s1 : Int32} {u : RSt}  : KX (B_hasByte_16 N s1 u) u := by
  unfold B_hasByte_16
  refine KX_pu ?_
  refine KX_if ?_ ?_
  · skip
    exact KX_some (fx_sI (by decide) jw_rf)
  · skip
    exact KX_some (fx_sI (by decide) jw_rf)
theorem kx_B_hasByte_0 {N : Nat} {l1 : Int32} {l2 : Int32} {u : RSt}  : KX (B_hasByte_0 N l1 l2 u) u := by
  unfold B_hasByte_0
  refine KX_if ?_ ?_
  · skip
    exact kx_B_hasByte_16.tr jw_rf
  · skip
    exact kx_B_hasByte_16.tr jw_rf
theorem kx_F_hasByte {N : Nat} {l1 : Int32} {l2 : Int32} {u : RSt}  : KX (F_hasByte N l1 l2 u) u := by
  unfold F_hasByte
  exact kx_B_hasByte_0.tr jw_rf
theorem kx_B_input_0 {N : Nat} {l1 : Int32} {l2 : Int32} {u : RSt}  : KX (B_input_0 N l1 l2 u) u := by
  unfold B_input_0
  refine KX_bn (kx_F_hasByte.tr jw_rf) (fun _ _ => ?_)
  refine KX_if ?_ ?_
  · skip
    exact KX_some jw_rf
  · skip
    refine KX_wr ?_
    exact KX_some (fx_sA (by decide) jw_rf)
theorem kx_F_input {N : Nat} {l1 : Int32} {l2 : Int32} {u : RSt}  : KX (F_input N l1 l2 u) u := by
  unfold F_input
  exact kx_B_input_0.tr jw_rf
theorem kx_B_look_51 {N : Nat} {l1 : Int32} {s0 : Int32} {u : RSt}  : KX (B_look_51 N l1 s0 u) u := by
  unfold B_look_51
  refine KX_if ?_ ?_
  · skip
    refine KX_if ?_ ?_
    · skip
      refine KX_if ?_ ?_
      · skip
        refine KX_rd (fun _ => ?_)
        exact KX_some jw_rf
      · skip
        refine KX_rd (fun _ => ?_)
        exact KX_some jw_rf
    · skip
      refine KX_rd (fun _ => ?_)
      exact KX_some jw_rf
  · skip
    refine KX_rd (fun _ => ?_)
    exact KX_some jw_rf
theorem kx_B_look_16 {N : Nat} {l1 : Int32} {l2 : Int32} {s1 : Int32} {u : RSt}  : KX (B_look_16 N l1 l2 s1 u) u := by
  unfold B_look_16
  refine KX_pu ?_
  refine KX_if ?_ ?_
  · skip
    exact KX_some (fx_sI (by decide) jw_rf)
  · skip
    refine KX_bn (kx_F_hasByte.tr (fx_sI (by decide) jw_rf)) (fun _ _ => ?_)
    refine KX_if ?_ ?_
    · skip
      exact KX_some jw_rf
    · skip
      refine KX_if ?_ ?_
      · skip
        exact kx_B_look_51.tr jw_rf
      · skip
        exact kx_B_look_51.tr jw_rf
theorem kx_B_look_0 {N : Nat} {l1 : Int32} {l2 : Int32} {u : RSt}  : KX (B_look_0 N l1 l2 u) u := by
  unfold B_look_0
  refine KX_if ?_ ?_
  · skip
    exact kx_B_look_16.tr jw_rf
  · skip
    exact kx_B_look_16.tr jw_rf
theorem kx_F_look {N : Nat} {l1 : Int32} {l2 : Int32} {u : RSt}  : KX (F_look N l1 l2 u) u := by
  unfold F_look
  exact kx_B_look_0.tr jw_rf
theorem kx_B_force_22 {N : Nat} {l3 : Int32} {l4 : Int32} {s0 : Int32} {u : RSt}  : KX (B_force_22 N l3 l4 s0 u) u := by
  unfold B_force_22
  refine KX_wr ?_
  refine KX_wr ?_
  exact KX_some (fx_sA (by decide) (fx_sA (by decide) jw_rf))
theorem kx_B_force_0 {N : Nat} {l1 : Int32} {l2 : Int32} {l3 : Int32} {l4 : Int32} {u : RSt}  : KX (B_force_0 N l1 l2 l3 l4 u) u := by
  unfold B_force_0
  refine KX_bn (kx_F_hasByte.tr jw_rf) (fun _ _ => ?_)
  refine KX_if ?_ ?_
  · skip
    exact KX_some jw_rf
  · skip
    refine KX_if ?_ ?_
    · skip
      exact kx_B_force_22.tr jw_rf
    · skip
      exact kx_B_force_22.tr jw_rf
theorem kx_F_force {N : Nat} {l1 : Int32} {l2 : Int32} {l3 : Int32} {l4 : Int32} {u : RSt}  : KX (F_force N l1 l2 l3 l4 u) u := by
  unfold F_force
  exact kx_B_force_0.tr jw_rf
theorem kx_B_watchdog_17 {N : Nat} {l1 : Int32} {s1 : Int32} {u : RSt}  : KX (B_watchdog_17 N l1 s1 u) u := by
  unfold B_watchdog_17
  refine KX_pu ?_
  refine KX_if ?_ ?_
  · skip
    refine KX_pu ?_
    exact KX_some (fx_sI (by decide) (fx_sI (by decide) jw_rf))
  · skip
    exact KX_some (fx_sI (by decide) jw_rf)
theorem kx_B_watchdog_0 {N : Nat} {l1 : Int32} {u : RSt}  : KX (B_watchdog_0 N l1 u) u := by
  unfold B_watchdog_0
  refine KX_if ?_ ?_
  · skip
    exact kx_B_watchdog_17.tr jw_rf
  · skip
    exact kx_B_watchdog_17.tr jw_rf
theorem kx_F_watchdog {N : Nat} {l1 : Int32} {u : RSt}  : KX (F_watchdog N l1 u) u := by
  unfold F_watchdog
  exact kx_B_watchdog_0.tr jw_rf
theorem kx_B_hasTask_25 {N : Nat} {s1 : Int32} {u : RSt}  : KX (B_hasTask_25 N s1 u) u := by
  unfold B_hasTask_25
  refine KX_pu ?_
  refine KX_if ?_ ?_
  · skip
    exact KX_some (fx_sI (by decide) jw_rf)
  · skip
    exact KX_some (fx_sI (by decide) jw_rf)
theorem kx_B_hasTask_0 {N : Nat} {l1 : Int32} {u : RSt}  : KX (B_hasTask_0 N l1 u) u := by
  unfold B_hasTask_0
  refine KX_rd (fun _ => ?_)
  refine KX_if ?_ ?_
  · skip
    exact kx_B_hasTask_25.tr jw_rf
  · skip
    exact kx_B_hasTask_25.tr jw_rf
theorem kx_F_hasTask {N : Nat} {l1 : Int32} {u : RSt}  : KX (F_hasTask N l1 u) u := by
  unfold F_hasTask
  exact kx_B_hasTask_0.tr jw_rf
theorem kx_B_clear_0 {N : Nat} {l1 : Int32} {u : RSt}  : KX (B_clear_0 N l1 u) u := by
  unfold B_clear_0
  refine KX_bn (kx_F_hasTask.tr jw_rf) (fun _ _ => ?_)
  refine KX_if ?_ ?_
  · skip
    exact KX_some jw_rf
  · skip
    refine KX_rd (fun _ => ?_)
    refine KX_wr ?_
    refine KX_zr ?_
    exact KX_some (fx_sA (by decide) jw_rf)
theorem kx_F_clear {N : Nat} {l1 : Int32} {u : RSt}  : KX (F_clear N l1 u) u := by
  unfold F_clear
  exact kx_B_clear_0.tr jw_rf
theorem kx_B_task_0 {N : Nat} {l1 : Int32} {l2 : Int32} {u : RSt}  : KX (B_task_0 N l1 l2 u) u := by
  unfold B_task_0
  refine KX_bn (kx_F_hasTask.tr jw_rf) (fun _ _ => ?_)
  refine KX_if ?_ ?_
  · skip
    exact KX_some jw_rf
  · skip
    refine KX_if ?_ ?_
    · skip
      refine KX_rd (fun _ => ?_)
      exact KX_some jw_rf
    · skip
      refine KX_if ?_ ?_
      · skip
        refine KX_rd (fun _ => ?_)
        exact KX_some jw_rf
      · skip
        refine KX_if ?_ ?_
        · skip
          refine KX_rd (fun _ => ?_)
          refine KX_if ?_ ?_
          · skip
            exact KX_some jw_rf
          · skip
            exact KX_some jw_rf
        · skip
          refine KX_if ?_ ?_
          · skip
            refine KX_rd (fun _ => ?_)
            exact KX_some jw_rf
          · skip
            refine KX_if ?_ ?_
            · skip
              refine KX_rd (fun _ => ?_)
              exact KX_some jw_rf
            · skip
              refine KX_if ?_ ?_
              · skip
                refine KX_rd (fun _ => ?_)
                exact KX_some jw_rf
              · skip
                refine KX_if ?_ ?_
                · skip
                  refine KX_rd (fun _ => ?_)
                  exact KX_some jw_rf
                · skip
                  refine KX_if ?_ ?_
                  · skip
                    refine KX_rd (fun _ => ?_)
                    exact KX_some jw_rf
                  · skip
                    refine KX_if ?_ ?_
                    · skip
                      refine KX_rd (fun _ => ?_)
                      exact KX_some jw_rf
                    · skip
                      refine KX_pu ?_
                      exact KX_some (fx_sI (by decide) jw_rf)
theorem kx_F_task {N : Nat} {l1 : Int32} {l2 : Int32} {u : RSt}  : KX (F_task N l1 l2 u) u := by
  unfold F_task
  exact kx_B_task_0.tr jw_rf
theorem kx_B_hasVariable_25 {N : Nat} {s1 : Int32} {u : RSt}  : KX (B_hasVariable_25 N s1 u) u := by
  unfold B_hasVariable_25
  refine KX_pu ?_
  refine KX_if ?_ ?_
  · skip
    exact KX_some (fx_sI (by decide) jw_rf)
  · skip
    exact KX_some (fx_sI (by decide) jw_rf)
theorem kx_B_hasVariable_0 {N : Nat} {l1 : Int32} {u : RSt}  : KX (B_hasVariable_0 N l1 u) u := by
  unfold B_hasVariable_0
  refine KX_rd (fun _ => ?_)
  refine KX_if ?_ ?_
  · skip
    exact kx_B_hasVariable_25.tr jw_rf
  · skip
    exact kx_B_hasVariable_25.tr jw_rf
theorem kx_F_hasVariable {N : Nat} {l1 : Int32} {u : RSt}  : KX (F_hasVariable N l1 u) u := by
  unfold F_hasVariable
  exact kx_B_hasVariable_0.tr jw_rf
theorem kx_B_hasPlace_38 {N : Nat} {u : RSt}  : KX (B_hasPlace_38 N u) u := by
  unfold B_hasPlace_38
  refine KX_if ?_ ?_
  · skip
    exact KX_some jw_rf
  · skip
    exact KX_some jw_rf
theorem kx_B_hasPlace_0 {N : Nat} {l1 : Int32} {l2 : Int32} {u : RSt}  : KX (B_hasPlace_0 N l1 l2 u) u := by
  unfold B_hasPlace_0
  refine KX_bn (kx_F_hasVariable.tr jw_rf) (fun _ _ => ?_)
  refine KX_if ?_ ?_
  · skip
    exact kx_B_hasPlace_38.tr jw_rf
  · skip
    refine KX_rd (fun _ => ?_)
    refine KX_if ?_ ?_
    · skip
      refine KX_pu ?_
      exact kx_B_hasPlace_38.tr (fx_sI (by decide) jw_rf)
    · skip
      exact kx_B_hasPlace_38.tr jw_rf
theorem kx_F_hasPlace {N : Nat} {l1 : Int32} {l2 : Int32} {u : RSt}  : KX (F_hasPlace N l1 l2 u) u := by
  unfold F_hasPlace
  exact kx_B_hasPlace_0.tr jw_rf
theorem kx_B_value_0 {N : Nat} {l1 : Int32} {l2 : Int32} {u : RSt}  : KX (B_value_0 N l1 l2 u) u := by
  unfold B_value_0
  refine KX_bn (kx_F_hasPlace.tr jw_rf) (fun _ _ => ?_)
  refine KX_if ?_ ?_
  · skip
    exact KX_some jw_rf
  · skip
    refine KX_bn (kx_F_numberOf.tr jw_rf) (fun _ _ => ?_)
    exact KX_some jw_rf
theorem kx_F_value {N : Nat} {l1 : Int32} {l2 : Int32} {u : RSt}  : KX (F_value N l1 l2 u) u := by
  unfold F_value
  exact kx_B_value_0.tr jw_rf
theorem kx_B_poke_39 {N : Nat} {l1 : Int32} {l2 : Int32} {l3 : Int64} {l5 : Int32} {u : RSt}  : KX (B_poke_39 N l1 l2 l3 l5 u) u := by
  unfold B_poke_39
  refine KX_if ?_ ?_
  · skip
    refine KX_rd (fun _ => ?_)
    refine KX_rd (fun _ => ?_)
    refine KX_bn (kx_F_write.tr jw_rf) (fun _ _ => ?_)
    refine KX_bn (kx_F_numberOf.tr jw_rf) (fun _ _ => ?_)
    exact KX_some jw_rf
  · skip
    exact KX_some jw_rf
theorem kx_B_poke_0 {N : Nat} {l1 : Int32} {l2 : Int32} {l3 : Int64} {u : RSt}  : KX (B_poke_0 N l1 l2 l3 u) u := by
  unfold B_poke_0
  refine KX_bn (kx_F_hasPlace.tr jw_rf) (fun _ _ => ?_)
  refine KX_if ?_ ?_
  · skip
    exact KX_some jw_rf
  · skip
    refine KX_rd (fun _ => ?_)
    refine KX_if ?_ ?_
    · skip
      refine KX_pu ?_
      exact kx_B_poke_39.tr (fx_sI (by decide) jw_rf)
    · skip
      exact kx_B_poke_39.tr jw_rf
theorem kx_F_poke {N : Nat} {l1 : Int32} {l2 : Int32} {l3 : Int64} {u : RSt}  : KX (F_poke N l1 l2 l3 u) u := by
  unfold F_poke
  exact kx_B_poke_0.tr jw_rf
theorem kx_B_variable_0 {N : Nat} {l1 : Int32} {l2 : Int32} {u : RSt}  : KX (B_variable_0 N l1 l2 u) u := by
  unfold B_variable_0
  refine KX_bn (kx_F_hasVariable.tr jw_rf) (fun _ _ => ?_)
  refine KX_if ?_ ?_
  · skip
    exact KX_some jw_rf
  · skip
    refine KX_if ?_ ?_
    · skip
      refine KX_rd (fun _ => ?_)
      exact KX_some jw_rf
    · skip
      refine KX_if ?_ ?_
      · skip
        refine KX_rd (fun _ => ?_)
        exact KX_some jw_rf
      · skip
        refine KX_if ?_ ?_
        · skip
          refine KX_rd (fun _ => ?_)
          exact KX_some jw_rf
        · skip
          refine KX_if ?_ ?_
          · skip
            refine KX_rd (fun _ => ?_)
            refine KX_if ?_ ?_
            · skip
              exact KX_some jw_rf
            · skip
              exact KX_some jw_rf
          · skip
            refine KX_if ?_ ?_
            · skip
              refine KX_rd (fun _ => ?_)
              exact KX_some jw_rf
            · skip
              refine KX_pu ?_
              exact KX_some (fx_sI (by decide) jw_rf)
theorem kx_F_variable {N : Nat} {l1 : Int32} {l2 : Int32} {u : RSt}  : KX (F_variable N l1 l2 u) u := by
  unfold F_variable
  exact kx_B_variable_0.tr jw_rf
theorem kx_B_field_0 {N : Nat} {l1 : Int32} {l2 : Int32} {l3 : Int32} {u : RSt}  : KX (B_field_0 N l1 l2 l3 u) u := by
  unfold B_field_0
  refine KX_pu ?_
  refine KX_rd (fun _ => ?_)
  refine KX_if ?_ ?_
  · skip
    exact KX_some (fx_sI (by decide) jw_rf)
  · skip
    refine KX_rd (fun _ => ?_)
    refine KX_rd (fun _ => ?_)
    refine KX_if ?_ ?_
    · skip
      exact KX_some (fx_sI (by decide) jw_rf)
    · skip
      refine KX_rd (fun _ => ?_)
      refine KX_rd (fun _ => ?_)
      refine KX_if ?_ ?_
      · skip
        exact KX_some (fx_sI (by decide) jw_rf)
      · skip
        refine KX_pu ?_
        refine KX_rd (fun _ => ?_)
        refine KX_rd (fun _ => ?_)
        refine KX_rd (fun _ => ?_)
        exact KX_some (fx_sI (by decide) (fx_sI (by decide) jw_rf))
theorem kx_F_field {N : Nat} {l1 : Int32} {l2 : Int32} {l3 : Int32} {u : RSt}  : KX (F_field N l1 l2 l3 u) u := by
  unfold F_field
  exact kx_B_field_0.tr jw_rf
theorem kx_B_event_33 {N : Nat} {l1 : Int32} {l2 : Int32} {s1 : Int32} {u : RSt}  : KX (B_event_33 N l1 l2 s1 u) u := by
  unfold B_event_33
  refine KX_pu ?_
  refine KX_if ?_ ?_
  · skip
    refine KX_if ?_ ?_
    · skip
      refine KX_rd (fun _ => ?_)
      exact KX_some (fx_sI (by decide) jw_rf)
    · skip
      refine KX_if ?_ ?_
      · skip
        refine KX_rd (fun _ => ?_)
        exact KX_some (fx_sI (by decide) jw_rf)
      · skip
        refine KX_if ?_ ?_
        · skip
          refine KX_rd (fun _ => ?_)
          exact KX_some (fx_sI (by decide) jw_rf)
        · skip
          refine KX_rd (fun _ => ?_)
          exact KX_some (fx_sI (by decide) jw_rf)
  · skip
    exact KX_some (fx_sI (by decide) jw_rf)
theorem kx_B_event_0 {N : Nat} {l1 : Int32} {l2 : Int32} {u : RSt}  : KX (B_event_0 N l1 l2 u) u := by
  unfold B_event_0
  refine KX_if ?_ ?_
  · skip
    exact kx_B_event_33.tr jw_rf
  · skip
    refine KX_if ?_ ?_
    · skip
      exact kx_B_event_33.tr jw_rf
    · skip
      exact kx_B_event_33.tr jw_rf
theorem kx_F_event {N : Nat} {l1 : Int32} {l2 : Int32} {u : RSt}  : KX (F_event N l1 l2 u) u := by
  unfold F_event
  exact kx_B_event_0.tr jw_rf
theorem kx_B_count_51 {N : Nat} {R_23 : Int32 × Int32 × Int32 × RSt → Option (Int32 × RSt)} {l1 : Int32} {l3 : Int32} {s0 : Int32} {s1 : Int32} {u : RSt} (h_R_23 : ∀ a, KX (R_23 a) a.2.2.2) : KX (B_count_51 N R_23 l1 l3 s0 s1 u) u := by
  unfold B_count_51
  exact (h_R_23 _).tr jw_rf
theorem kx_B_count_23 {N : Nat} {R_23 : Int32 × Int32 × Int32 × RSt → Option (Int32 × RSt)} {l1 : Int32} {l2 : Int32} {l3 : Int32} {u : RSt} (h_R_23 : ∀ a, KX (R_23 a) a.2.2.2) : KX (B_count_23 N R_23 l1 l2 l3 u) u := by
  unfold B_count_23
  refine KX_rd (fun _ => ?_)
  refine KX_if ?_ ?_
  · skip
    refine KX_if ?_ ?_
    · skip
      refine KX_rd (fun _ => ?_)
      exact KX_some jw_rf
    · skip
      refine KX_if ?_ ?_
      · skip
        refine KX_rd (fun _ => ?_)
        exact KX_some jw_rf
      · skip
        refine KX_if ?_ ?_
        · skip
          refine KX_rd (fun _ => ?_)
          exact KX_some jw_rf
        · skip
          refine KX_if ?_ ?_
          · skip
            refine KX_rd (fun _ => ?_)
            exact KX_some jw_rf
          · skip
            refine KX_if ?_ ?_
            · skip
              refine KX_rd (fun _ => ?_)
              exact KX_some jw_rf
            · skip
              refine KX_if ?_ ?_
              · skip
                exact KX_some jw_rf
              · skip
                refine KX_if ?_ ?_
                · skip
                  exact KX_some jw_rf
                · skip
                  refine KX_if ?_ ?_
                  · skip
                    exact KX_some jw_rf
                  · skip
                    refine KX_if ?_ ?_
                    · skip
                      exact KX_some jw_rf
                    · skip
                      refine KX_if ?_ ?_
                      · skip
                        exact KX_some jw_rf
                      · skip
                        refine KX_if ?_ ?_
                        · skip
                          exact KX_some jw_rf
                        · skip
                          exact KX_some jw_rf
  · skip
    refine KX_rd (fun _ => ?_)
    refine KX_if ?_ ?_
    · skip
      exact (kx_B_count_51 h_R_23).tr jw_rf
    · skip
      exact (kx_B_count_51 h_R_23).tr jw_rf
theorem kx_LP_count_23 {N : Nat}  (n : Nat) : ∀ a : Int32 × Int32 × Int32 × RSt, KX (LP_count_23 N n a) a.2.2.2 := by
  induction n with
  | zero => exact fun a r z e => by have e : (none : Option _) = some (r, z) := e; cases e
  | succ n ih =>
    intro a
    show KX (B_count_23 N (LP_count_23 N n) a.1 a.2.1 a.2.2.1 a.2.2.2) a.2.2.2
    exact kx_B_count_23 ih
theorem kx_B_count_16 {N : Nat} {l1 : Int32} {s1 : Int32} {u : RSt}  : KX (B_count_16 N l1 s1 u) u := by
  unfold B_count_16
  refine KX_pu ?_
  exact (kx_LP_count_23  _ _).tr (fx_sI (by decide) jw_rf)
theorem kx_B_count_0 {N : Nat} {l1 : Int32} {u : RSt}  : KX (B_count_0 N l1 u) u := by
  unfold B_count_0
  refine KX_if ?_ ?_
  · skip
    exact kx_B_count_16.tr jw_rf
  · skip
    exact kx_B_count_16.tr jw_rf
theorem kx_F_count {N : Nat} {l1 : Int32} {u : RSt}  : KX (F_count N l1 u) u := by
  unfold F_count
  exact kx_B_count_0.tr jw_rf
theorem kx_B_sum_25 {N : Nat} {R_9 : Int64 × Int32 × RSt → Option (Int64 × RSt)} {R_25 : Int64 × Int32 × Int32 × RSt → Option (Int64 × RSt)} {l1 : Int64} {l3 : Int32} {l4 : Int32} {u : RSt} (h_R_9 : ∀ a, KX (R_9 a) a.2.2) (h_R_25 : ∀ a, KX (R_25 a) a.2.2.2) : KX (B_sum_25 N R_9 R_25 l1 l3 l4 u) u := by
  unfold B_sum_25
  refine KX_rd (fun _ => ?_)
  refine KX_if ?_ ?_
  · skip
    exact (h_R_9 _).tr jw_rf
  · skip
    refine KX_bn (kx_F_numberOf.tr jw_rf) (fun _ _ => ?_)
    exact (h_R_25 _).tr jw_rf
theorem kx_LP_sum_25 {N : Nat} {R_9 : Int64 × Int32 × RSt → Option (Int64 × RSt)} (h_R_9 : ∀ a, KX (R_9 a) a.2.2) (n : Nat) : ∀ a : Int64 × Int32 × Int32 × RSt, KX (LP_sum_25 N R_9 n a) a.2.2.2 := by
  induction n with
  | zero => exact fun a r z e => by have e : (none : Option _) = some (r, z) := e; cases e
  | succ n ih =>
    intro a
    show KX (B_sum_25 N R_9 (LP_sum_25 N R_9 n) a.1 a.2.1 a.2.2.1 a.2.2.2) a.2.2.2
    exact kx_B_sum_25 h_R_9 ih
theorem kx_B_sum_103 {N : Nat} {R_79 : Int64 × Int32 × RSt → Option (Int64 × RSt)} {R_103 : Int64 × Int32 × Int32 × RSt → Option (Int64 × RSt)} {l1 : Int64} {l3 : Int32} {l4 : Int32} {u : RSt} (h_R_79 : ∀ a, KX (R_79 a) a.2.2) (h_R_103 : ∀ a, KX (R_103 a) a.2.2.2) : KX (B_sum_103 N R_79 R_103 l1 l3 l4 u) u := by
  unfold B_sum_103
  refine KX_rd (fun _ => ?_)
  refine KX_rd (fun _ => ?_)
  refine KX_if ?_ ?_
  · skip
    exact (h_R_79 _).tr jw_rf
  · skip
    refine KX_rd (fun _ => ?_)
    refine KX_rd (fun _ => ?_)
    exact (h_R_103 _).tr jw_rf
theorem kx_LP_sum_103 {N : Nat} {R_79 : Int64 × Int32 × RSt → Option (Int64 × RSt)} (h_R_79 : ∀ a, KX (R_79 a) a.2.2) (n : Nat) : ∀ a : Int64 × Int32 × Int32 × RSt, KX (LP_sum_103 N R_79 n a) a.2.2.2 := by
  induction n with
  | zero => exact fun a r z e => by have e : (none : Option _) = some (r, z) := e; cases e
  | succ n ih =>
    intro a
    show KX (B_sum_103 N R_79 (LP_sum_103 N R_79 n) a.1 a.2.1 a.2.2.1 a.2.2.2) a.2.2.2
    exact kx_B_sum_103 h_R_79 ih
theorem kx_B_sum_79 {N : Nat} {R_79 : Int64 × Int32 × RSt → Option (Int64 × RSt)} {l1 : Int64} {l3 : Int32} {u : RSt} (h_R_79 : ∀ a, KX (R_79 a) a.2.2) : KX (B_sum_79 N R_79 l1 l3 u) u := by
  unfold B_sum_79
  refine KX_rd (fun _ => ?_)
  refine KX_if ?_ ?_
  · skip
    exact KX_some jw_rf
  · skip
    exact (kx_LP_sum_103 h_R_79 _ _).tr jw_rf
theorem kx_LP_sum_79 {N : Nat}  (n : Nat) : ∀ a : Int64 × Int32 × RSt, KX (LP_sum_79 N n a) a.2.2 := by
  induction n with
  | zero => exact fun a r z e => by have e : (none : Option _) = some (r, z) := e; cases e
  | succ n ih =>
    intro a
    show KX (B_sum_79 N (LP_sum_79 N n) a.1 a.2.1 a.2.2) a.2.2
    exact kx_B_sum_79 ih
theorem kx_B_sum_9 {N : Nat} {R_9 : Int64 × Int32 × RSt → Option (Int64 × RSt)} {l1 : Int64} {l3 : Int32} {u : RSt} (h_R_9 : ∀ a, KX (R_9 a) a.2.2) : KX (B_sum_9 N R_9 l1 l3 u) u := by
  unfold B_sum_9
  refine KX_rd (fun _ => ?_)
  refine KX_if ?_ ?_
  · skip
    exact (kx_LP_sum_79  _ _).tr jw_rf
  · skip
    exact (kx_LP_sum_25 h_R_9 _ _).tr jw_rf
theorem kx_LP_sum_9 {N : Nat}  (n : Nat) : ∀ a : Int64 × Int32 × RSt, KX (LP_sum_9 N n a) a.2.2 := by
  induction n with
  | zero => exact fun a r z e => by have e : (none : Option _) = some (r, z) := e; cases e
  | succ n ih =>
    intro a
    show KX (B_sum_9 N (LP_sum_9 N n) a.1 a.2.1 a.2.2) a.2.2
    exact kx_B_sum_9 ih
theorem kx_B_sum_0 {N : Nat} {u : RSt}  : KX (B_sum_0 N u) u := by
  unfold B_sum_0
  refine KX_pu ?_
  exact (kx_LP_sum_9  _ _).tr (fx_sI (by decide) jw_rf)
theorem kx_F_sum {N : Nat} {u : RSt}  : KX (F_sum N u) u := by
  unfold F_sum
  exact kx_B_sum_0.tr jw_rf
theorem kx_B_areKinds_28 {N : Nat} {s1 : Int32} {u : RSt}  : KX (B_areKinds_28 N s1 u) u := by
  unfold B_areKinds_28
  refine KX_pu ?_
  refine KX_if ?_ ?_
  · skip
    exact KX_some (fx_sI (by decide) jw_rf)
  · skip
    exact KX_some (fx_sI (by decide) jw_rf)
theorem kx_B_areKinds_27 {N : Nat} {u : RSt}  : KX (B_areKinds_27 N u) u := by
  unfold B_areKinds_27
  exact kx_B_areKinds_28.tr jw_rf
theorem kx_B_areKinds_0 {N : Nat} {l1 : Int32} {l2 : Int32} {l3 : Int32} {u : RSt}  : KX (B_areKinds_0 N l1 l2 l3 u) u := by
  unfold B_areKinds_0
  refine KX_if ?_ ?_
  · skip
    exact kx_B_areKinds_27.tr jw_rf
  · skip
    refine KX_if ?_ ?_
    · skip
      exact kx_B_areKinds_27.tr jw_rf
    · skip
      refine KX_if ?_ ?_
      · skip
        exact kx_B_areKinds_27.tr jw_rf
      · skip
        exact kx_B_areKinds_28.tr jw_rf
theorem kx_F_areKinds {N : Nat} {l1 : Int32} {l2 : Int32} {l3 : Int32} {u : RSt}  : KX (F_areKinds N l1 l2 l3 u) u := by
  unfold F_areKinds
  exact kx_B_areKinds_0.tr jw_rf
theorem kx_B_cut_0 {N : Nat} {l1 : Int32} {l2 : Int64} {u : RSt}  : KX (B_cut_0 N l1 l2 u) u := by
  unfold B_cut_0
  refine KX_bn (kx_F_areKinds.tr jw_rf) (fun _ _ => ?_)
  refine KX_if ?_ ?_
  · skip
    exact KX_some jw_rf
  · skip
    exact KX_some jw_rf
theorem kx_F_cut {N : Nat} {l1 : Int32} {l2 : Int64} {u : RSt}  : KX (F_cut N l1 l2 u) u := by
  unfold F_cut
  exact kx_B_cut_0.tr jw_rf
theorem kx_B_work_195 {N : Nat} {l2 : Int32} {l8 : Int32} {l9 : Int64} {l11 : Int64} {s0 : Int32} {u : RSt}  : KX (B_work_195 N l2 l8 l9 l11 s0 u) u := by
  unfold B_work_195
  refine KX_if ?_ ?_
  · skip
    refine KX_ok ?_
    exact KX_some jw_rf
  · skip
    exact KX_some jw_rf
theorem kx_B_work_190 {N : Nat} {l2 : Int32} {l8 : Int32} {l9 : Int64} {l11 : Int64} {u : RSt}  : KX (B_work_190 N l2 l8 l9 l11 u) u := by
  unfold B_work_190
  exact kx_B_work_195.tr jw_rf
theorem kx_B_work_194 {N : Nat} {l2 : Int32} {l8 : Int32} {l9 : Int64} {l11 : Int64} {u : RSt}  : KX (B_work_194 N l2 l8 l9 l11 u) u := by
  unfold B_work_194
  exact kx_B_work_195.tr jw_rf
theorem kx_B_work_174 {N : Nat} {l1 : Int32} {l2 : Int32} {l3 : Int32} {l8 : Int32} {l9 : Int64} {l11 : Int64} {u : RSt}  : KX (B_work_174 N l1 l2 l3 l8 l9 l11 u) u := by
  unfold B_work_174
  refine KX_if ?_ ?_
  · skip
    exact kx_B_work_190.tr jw_rf
  · skip
    refine KX_if ?_ ?_
    · skip
      exact kx_B_work_194.tr jw_rf
    · skip
      refine KX_if ?_ ?_
      · skip
        exact kx_B_work_190.tr jw_rf
      · skip
        exact kx_B_work_194.tr jw_rf
theorem kx_B_work_162 {N : Nat} {l1 : Int32} {l2 : Int32} {l3 : Int32} {l8 : Int32} {l9 : Int64} {l11 : Int64} {u : RSt}  : KX (B_work_162 N l1 l2 l3 l8 l9 l11 u) u := by
  unfold B_work_162
  refine KX_if ?_ ?_
  · skip
    refine KX_pu ?_
    exact kx_B_work_174.tr (fx_sI (by decide) jw_rf)
  · skip
    exact kx_B_work_174.tr jw_rf
theorem kx_B_work_134 {N : Nat} {l1 : Int32} {l2 : Int32} {l3 : Int32} {l4 : Int64} {l6 : Int64} {s0 : Int32} {u : RSt}  : KX (B_work_134 N l1 l2 l3 l4 l6 s0 u) u := by
  unfold B_work_134
  refine KX_if ?_ ?_
  · skip
    exact kx_B_work_162.tr jw_rf
  · skip
    refine KX_if ?_ ?_
    · skip
      exact kx_B_work_162.tr jw_rf
    · skip
      exact kx_B_work_174.tr jw_rf
theorem kx_B_work_0 {N : Nat} {l1 : Int32} {l2 : Int32} {l3 : Int32} {l4 : Int64} {l6 : Int64} {u : RSt}  : KX (B_work_0 N l1 l2 l3 l4 l6 u) u := by
  unfold B_work_0
  refine KX_bn (kx_F_areKinds.tr jw_rf) (fun _ _ => ?_)
  refine KX_if ?_ ?_
  · skip
    exact KX_some jw_rf
  · skip
    refine KX_if ?_ ?_
    · skip
      exact kx_B_work_134.tr jw_rf
    · skip
      refine KX_if ?_ ?_
      · skip
        exact kx_B_work_134.tr jw_rf
      · skip
        refine KX_if ?_ ?_
        · skip
          exact kx_B_work_134.tr jw_rf
        · skip
          refine KX_if ?_ ?_
          · skip
            exact kx_B_work_134.tr jw_rf
          · skip
            refine KX_if ?_ ?_
            · skip
              exact kx_B_work_134.tr jw_rf
            · skip
              refine KX_if ?_ ?_
              · skip
                exact kx_B_work_134.tr jw_rf
              · skip
                refine KX_if ?_ ?_
                · skip
                  exact kx_B_work_134.tr jw_rf
                · skip
                  refine KX_if ?_ ?_
                  · skip
                    exact kx_B_work_134.tr jw_rf
                  · skip
                    refine KX_if ?_ ?_
                    · skip
                      exact kx_B_work_134.tr jw_rf
                    · skip
                      refine KX_if ?_ ?_
                      · skip
                        exact kx_B_work_134.tr jw_rf
                      · skip
                        exact kx_B_work_134.tr jw_rf
theorem kx_F_work {N : Nat} {l1 : Int32} {l2 : Int32} {l3 : Int32} {l4 : Int64} {l6 : Int64} {u : RSt}  : KX (F_work N l1 l2 l3 l4 l6 u) u := by
  unfold F_work
  exact kx_B_work_0.tr jw_rf
theorem kx_B_tell_109 {N : Nat} {l8 : Int64} {l10 : Int64} {s0 : Int32} {u : RSt}  : KX (B_tell_109 N l8 l10 s0 u) u := by
  unfold B_tell_109
  refine KX_ok ?_
  exact KX_some jw_rf
theorem kx_B_tell_44 {N : Nat} {l1 : Int32} {l8 : Int64} {l10 : Int64} {s0 : Int32} {u : RSt}  : KX (B_tell_44 N l1 l8 l10 s0 u) u := by
  unfold B_tell_44
  refine KX_if ?_ ?_
  · skip
    refine KX_if ?_ ?_
    · skip
      refine KX_if ?_ ?_
      · skip
        refine KX_if ?_ ?_
        · skip
          exact KX_some jw_rf
        · skip
          refine KX_if ?_ ?_
          · skip
            refine KX_if ?_ ?_
            · skip
              exact KX_some jw_rf
            · skip
              refine KX_if ?_ ?_
              · skip
                exact KX_some jw_rf
              · skip
                refine KX_if ?_ ?_
                · skip
                  exact KX_some jw_rf
                · skip
                  exact KX_some jw_rf
          · skip
            exact KX_some jw_rf
      · skip
        exact KX_some jw_rf
    · skip
      exact KX_some jw_rf
  · skip
    refine KX_if ?_ ?_
    · skip
      exact kx_B_tell_109.tr jw_rf
    · skip
      refine KX_if ?_ ?_
      · skip
        exact kx_B_tell_109.tr jw_rf
      · skip
        refine KX_if ?_ ?_
        · skip
          exact kx_B_tell_109.tr jw_rf
        · skip
          refine KX_if ?_ ?_
          · skip
            exact kx_B_tell_109.tr jw_rf
          · skip
            refine KX_if ?_ ?_
            · skip
              exact kx_B_tell_109.tr jw_rf
            · skip
              exact kx_B_tell_109.tr jw_rf
theorem kx_B_tell_0 {N : Nat} {l1 : Int32} {l2 : Int32} {l3 : Int32} {l4 : Int64} {l6 : Int64} {u : RSt}  : KX (B_tell_0 N l1 l2 l3 l4 l6 u) u := by
  unfold B_tell_0
  refine KX_bn (kx_F_areKinds.tr jw_rf) (fun _ _ => ?_)
  refine KX_if ?_ ?_
  · skip
    exact KX_some jw_rf
  · skip
    refine KX_if ?_ ?_
    · skip
      exact kx_B_tell_44.tr jw_rf
    · skip
      exact kx_B_tell_44.tr jw_rf
theorem kx_F_tell {N : Nat} {l1 : Int32} {l2 : Int32} {l3 : Int32} {l4 : Int64} {l6 : Int64} {u : RSt}  : KX (F_tell N l1 l2 l3 l4 l6 u) u := by
  unfold F_tell
  exact kx_B_tell_0.tr jw_rf
theorem kx_B_feed_77 {N : Nat} {R_23 : Int32 × Int32 × Int32 × Int32 × Int32 × Int32 × RSt → Option (Int32 × RSt)} {R_77 : Int32 × Int32 × Int32 × Int32 × Int32 × Int32 × Int32 × Int32 × RSt → Option (Int32 × RSt)} {l1 : Int32} {l2 : Int32} {l3 : Int32} {l4 : Int32} {l5 : Int32} {l6 : Int32} {l7 : Int32} {l8 : Int32} {u : RSt} (h_R_23 : ∀ a, KX (R_23 a) a.2.2.2.2.2.2) (h_R_77 : ∀ a, KX (R_77 a) a.2.2.2.2.2.2.2.2) : KX (B_feed_77 N R_23 R_77 l1 l2 l3 l4 l5 l6 l7 l8 u) u := by
  unfold B_feed_77
  refine KX_if ?_ ?_
  · skip
    exact (h_R_23 _).tr jw_rf
  · skip
    refine KX_pu ?_
    refine KX_wr ?_
    exact (h_R_77 _).tr (fx_sA (by decide) (fx_sI (by decide) jw_rf))
theorem kx_LP_feed_77 {N : Nat} {R_23 : Int32 × Int32 × Int32 × Int32 × Int32 × Int32 × RSt → Option (Int32 × RSt)} (h_R_23 : ∀ a, KX (R_23 a) a.2.2.2.2.2.2) (n : Nat) : ∀ a : Int32 × Int32 × Int32 × Int32 × Int32 × Int32 × Int32 × Int32 × RSt, KX (LP_feed_77 N R_23 n a) a.2.2.2.2.2.2.2.2 := by
  induction n with
  | zero => exact fun a r z e => by have e : (none : Option _) = some (r, z) := e; cases e
  | succ n ih =>
    intro a
    show KX (B_feed_77 N R_23 (LP_feed_77 N R_23 n) a.1 a.2.1 a.2.2.1 a.2.2.2.1 a.2.2.2.2.1 a.2.2.2.2.2.1 a.2.2.2.2.2.2.1 a.2.2.2.2.2.2.2.1 a.2.2.2.2.2.2.2.2) a.2.2.2.2.2.2.2.2
    exact kx_B_feed_77 h_R_23 ih
theorem kx_B_feed_71 {N : Nat} {R_23 : Int32 × Int32 × Int32 × Int32 × Int32 × Int32 × RSt → Option (Int32 × RSt)} {l1 : Int32} {l2 : Int32} {l3 : Int32} {l4 : Int32} {l5 : Int32} {l6 : Int32} {s0 : Int32} {u : RSt} (h_R_23 : ∀ a, KX (R_23 a) a.2.2.2.2.2.2) : KX (B_feed_71 N R_23 l1 l2 l3 l4 l5 l6 s0 u) u := by
  unfold B_feed_71
  exact (kx_LP_feed_77 h_R_23 _ _).tr jw_rf
theorem kx_B_feed_23 {N : Nat} {R_23 : Int32 × Int32 × Int32 × Int32 × Int32 × Int32 × RSt → Option (Int32 × RSt)} {l1 : Int32} {l2 : Int32} {l3 : Int32} {l4 : Int32} {l5 : Int32} {l6 : Int32} {u : RSt} (h_R_23 : ∀ a, KX (R_23 a) a.2.2.2.2.2.2) : KX (B_feed_23 N R_23 l1 l2 l3 l4 l5 l6 u) u := by
  unfold B_feed_23
  refine KX_if ?_ ?_
  · skip
    exact KX_some jw_rf
  · skip
    refine KX_if ?_ ?_
    · skip
      exact (kx_B_feed_71 h_R_23).tr jw_rf
    · skip
      refine KX_if ?_ ?_
      · skip
        exact (kx_B_feed_71 h_R_23).tr jw_rf
      · skip
        refine KX_if ?_ ?_
        · skip
          exact (kx_B_feed_71 h_R_23).tr jw_rf
        · skip
          refine KX_if ?_ ?_
          · skip
            exact (kx_B_feed_71 h_R_23).tr jw_rf
          · skip
            exact (kx_B_feed_71 h_R_23).tr jw_rf
theorem kx_LP_feed_23 {N : Nat}  (n : Nat) : ∀ a : Int32 × Int32 × Int32 × Int32 × Int32 × Int32 × RSt, KX (LP_feed_23 N n a) a.2.2.2.2.2.2 := by
  induction n with
  | zero => exact fun a r z e => by have e : (none : Option _) = some (r, z) := e; cases e
  | succ n ih =>
    intro a
    show KX (B_feed_23 N (LP_feed_23 N n) a.1 a.2.1 a.2.2.1 a.2.2.2.1 a.2.2.2.2.1 a.2.2.2.2.2.1 a.2.2.2.2.2.2) a.2.2.2.2.2.2
    exact kx_B_feed_23 ih
theorem kx_B_feed_0 {N : Nat} {l1 : Int32} {l2 : Int32} {l3 : Int32} {l4 : Int32} {l5 : Int32} {u : RSt}  : KX (B_feed_0 N l1 l2 l3 l4 l5 u) u := by
  unfold B_feed_0
  refine KX_pu ?_
  refine KX_if ?_ ?_
  · skip
    exact (kx_LP_feed_23  _ _).tr (fx_sI (by decide) jw_rf)
  · skip
    exact KX_some (fx_sI (by decide) jw_rf)
theorem kx_F_feed {N : Nat} {l1 : Int32} {l2 : Int32} {l3 : Int32} {l4 : Int32} {l5 : Int32} {u : RSt}  : KX (F_feed N l1 l2 l3 l4 l5 u) u := by
  unfold F_feed
  exact kx_B_feed_0.tr jw_rf
theorem kx_B_end_0 {N : Nat} {l1 : Int32} {u : RSt}  : KX (B_end_0 N l1 u) u := by
  unfold B_end_0
  refine KX_pu ?_
  refine KX_if ?_ ?_
  · skip
    exact KX_some (fx_sI (by decide) jw_rf)
  · skip
    refine KX_if ?_ ?_
    · skip
      refine KX_pu ?_
      exact KX_some (fx_sI (by decide) (fx_sI (by decide) jw_rf))
    · skip
      exact KX_some (fx_sI (by decide) jw_rf)
theorem kx_F_end {N : Nat} {l1 : Int32} {u : RSt}  : KX (F_end N l1 u) u := by
  unfold F_end
  exact kx_B_end_0.tr jw_rf
theorem kx_B_place_0 {N : Nat} {u : RSt}  : KX (B_place_0 N u) u := by
  unfold B_place_0
  refine KX_pu ?_
  exact KX_some (fx_sI (by decide) jw_rf)
theorem kx_F_place {N : Nat} {u : RSt}  : KX (F_place N u) u := by
  unfold F_place
  exact kx_B_place_0.tr jw_rf
theorem kx_B_figures_75 {N : Nat} {R_43 : Int32 × Int32 × Int32 × RSt → Option (Int32 × RSt)} {l2 : Int32} {l3 : Int32} {l4 : Int32} {u : RSt} (h_R_43 : ∀ a, KX (R_43 a) a.2.2.2) : KX (B_figures_75 N R_43 l2 l3 l4 u) u := by
  unfold B_figures_75
  exact (h_R_43 _).tr jw_rf
theorem kx_B_figures_294 {N : Nat} {R_210 : Int32 × Int32 × Int32 × Int32 × Int64 × Int32 × Int32 × RSt → Option (Int32 × RSt)} {l2 : Int32} {l4 : Int32} {l6 : Int32} {l7 : Int32} {l11 : Int32} {l12 : Int32} {s0 : Int64} {u : RSt} (h_R_210 : ∀ a, KX (R_210 a) a.2.2.2.2.2.2.2) : KX (B_figures_294 N R_210 l2 l4 l6 l7 l11 l12 s0 u) u := by
  unfold B_figures_294
  exact (h_R_210 _).tr jw_rf
theorem kx_B_figures_267 {N : Nat} {R_210 : Int32 × Int32 × Int32 × Int32 × Int64 × Int32 × Int32 × RSt → Option (Int32 × RSt)} {l2 : Int32} {l4 : Int32} {l6 : Int32} {l7 : Int32} {l9 : Int64} {l12 : Int32} {l13 : Int32} {s0 : Int32} {u : RSt} (h_R_210 : ∀ a, KX (R_210 a) a.2.2.2.2.2.2.2) : KX (B_figures_267 N R_210 l2 l4 l6 l7 l9 l12 l13 s0 u) u := by
  unfold B_figures_267
  refine KX_if ?_ ?_
  · skip
    exact (kx_B_figures_294 h_R_210).tr jw_rf
  · skip
    exact (kx_B_figures_294 h_R_210).tr jw_rf
theorem kx_B_figures_262 {N : Nat} {R_210 : Int32 × Int32 × Int32 × Int32 × Int64 × Int32 × Int32 × RSt → Option (Int32 × RSt)} {l2 : Int32} {l4 : Int32} {l6 : Int32} {l7 : Int32} {l9 : Int64} {l12 : Int32} {l13 : Int32} {u : RSt} (h_R_210 : ∀ a, KX (R_210 a) a.2.2.2.2.2.2.2) : KX (B_figures_262 N R_210 l2 l4 l6 l7 l9 l12 l13 u) u := by
  unfold B_figures_262
  exact (kx_B_figures_267 h_R_210).tr jw_rf
theorem kx_B_figures_266 {N : Nat} {R_210 : Int32 × Int32 × Int32 × Int32 × Int64 × Int32 × Int32 × RSt → Option (Int32 × RSt)} {l2 : Int32} {l4 : Int32} {l6 : Int32} {l7 : Int32} {l9 : Int64} {l12 : Int32} {l13 : Int32} {u : RSt} (h_R_210 : ∀ a, KX (R_210 a) a.2.2.2.2.2.2.2) : KX (B_figures_266 N R_210 l2 l4 l6 l7 l9 l12 l13 u) u := by
  unfold B_figures_266
  exact (kx_B_figures_267 h_R_210).tr jw_rf
theorem kx_B_figures_355 {N : Nat} {l6 : Int32} {l7 : Int32} {l9 : Int64} {l12 : Int32} {s1 : Int32} {s2 : Int32} {u : RSt}  : KX (B_figures_355 N l6 l7 l9 l12 s1 s2 u) u := by
  unfold B_figures_355
  refine KX_wr ?_
  refine KX_wr ?_
  refine KX_wr ?_
  exact KX_some (fx_sA (by decide) (fx_sB (fx_sA (by decide) jw_rf)))
theorem kx_B_figures_333 {N : Nat} {l6 : Int32} {l7 : Int32} {l9 : Int64} {l11 : Int32} {u : RSt}  : KX (B_figures_333 N l6 l7 l9 l11 u) u := by
  unfold B_figures_333
  refine KX_if ?_ ?_
  · skip
    exact kx_B_figures_355.tr jw_rf
  · skip
    exact kx_B_figures_355.tr jw_rf
theorem kx_B_figures_325 {N : Nat} {l6 : Int32} {l7 : Int32} {l9 : Int64} {s0 : Int32} {u : RSt}  : KX (B_figures_325 N l6 l7 l9 s0 u) u := by
  unfold B_figures_325
  exact kx_B_figures_333.tr jw_rf
theorem kx_B_figures_324 {N : Nat} {l6 : Int32} {l7 : Int32} {l9 : Int64} {u : RSt}  : KX (B_figures_324 N l6 l7 l9 u) u := by
  unfold B_figures_324
  exact kx_B_figures_325.tr jw_rf
theorem kx_B_figures_210 {N : Nat} {R_210 : Int32 × Int32 × Int32 × Int32 × Int64 × Int32 × Int32 × RSt → Option (Int32 × RSt)} {l2 : Int32} {l4 : Int32} {l6 : Int32} {l7 : Int32} {l9 : Int64} {l11 : Int32} {l12 : Int32} {u : RSt} (h_R_210 : ∀ a, KX (R_210 a) a.2.2.2.2.2.2.2) : KX (B_figures_210 N R_210 l2 l4 l6 l7 l9 l11 l12 u) u := by
  unfold B_figures_210
  refine KX_if ?_ ?_
  · skip
    refine KX_if ?_ ?_
    · skip
      refine KX_if ?_ ?_
      · skip
        refine KX_if ?_ ?_
        · skip
          exact kx_B_figures_324.tr jw_rf
        · skip
          exact kx_B_figures_325.tr jw_rf
      · skip
        exact kx_B_figures_324.tr jw_rf
    · skip
      exact kx_B_figures_333.tr jw_rf
  · skip
    refine KX_bn (kx_F_see.tr jw_rf) (fun _ _ => ?_)
    refine KX_if ?_ ?_
    · skip
      refine KX_if ?_ ?_
      · skip
        refine KX_if ?_ ?_
        · skip
          exact (kx_B_figures_262 h_R_210).tr jw_rf
        · skip
          refine KX_if ?_ ?_
          · skip
            refine KX_if ?_ ?_
            · skip
              exact (kx_B_figures_266 h_R_210).tr jw_rf
            · skip
              exact (kx_B_figures_262 h_R_210).tr jw_rf
          · skip
            exact (kx_B_figures_266 h_R_210).tr jw_rf
      · skip
        exact (kx_B_figures_266 h_R_210).tr jw_rf
    · skip
      exact (kx_B_figures_262 h_R_210).tr jw_rf
theorem kx_LP_figures_210 {N : Nat}  (n : Nat) : ∀ a : Int32 × Int32 × Int32 × Int32 × Int64 × Int32 × Int32 × RSt, KX (LP_figures_210 N n a) a.2.2.2.2.2.2.2 := by
  induction n with
  | zero => exact fun a r z e => by have e : (none : Option _) = some (r, z) := e; cases e
  | succ n ih =>
    intro a
    show KX (B_figures_210 N (LP_figures_210 N n) a.1 a.2.1 a.2.2.1 a.2.2.2.1 a.2.2.2.2.1 a.2.2.2.2.2.1 a.2.2.2.2.2.2.1 a.2.2.2.2.2.2.2) a.2.2.2.2.2.2.2
    exact kx_B_figures_210 ih
theorem kx_B_figures_191 {N : Nat} {l2 : Int32} {l3 : Int32} {l4 : Int32} {l6 : Int32} {l7 : Int32} {s0 : Int32} {u : RSt}  : KX (B_figures_191 N l2 l3 l4 l6 l7 s0 u) u := by
  unfold B_figures_191
  refine KX_if ?_ ?_
  · skip
    exact KX_some jw_rf
  · skip
    exact (kx_LP_figures_210  _ _).tr jw_rf
theorem kx_B_figures_190 {N : Nat} {l2 : Int32} {l3 : Int32} {l4 : Int32} {l6 : Int32} {l7 : Int32} {u : RSt}  : KX (B_figures_190 N l2 l3 l4 l6 l7 u) u := by
  unfold B_figures_190
  exact kx_B_figures_191.tr jw_rf
theorem kx_B_figures_159 {N : Nat} {l2 : Int32} {l3 : Int32} {l4 : Int32} {l6 : Int32} {l7 : Int32} {s0 : Int32} {s1 : Int32} {u : RSt}  : KX (B_figures_159 N l2 l3 l4 l6 l7 s0 s1 u) u := by
  unfold B_figures_159
  refine KX_if ?_ ?_
  · skip
    exact kx_B_figures_190.tr jw_rf
  · skip
    refine KX_bn (kx_F_see.tr jw_rf) (fun _ _ => ?_)
    refine KX_if ?_ ?_
    · skip
      refine KX_bn (kx_F_see.tr jw_rf) (fun _ _ => ?_)
      refine KX_if ?_ ?_
      · skip
        exact kx_B_figures_191.tr jw_rf
      · skip
        exact kx_B_figures_190.tr jw_rf
    · skip
      exact kx_B_figures_190.tr jw_rf
theorem kx_B_figures_119 {N : Nat} {l2 : Int32} {l3 : Int32} {l4 : Int32} {l5 : Int32} {l6 : Int32} {s0 : Int32} {u : RSt}  : KX (B_figures_119 N l2 l3 l4 l5 l6 s0 u) u := by
  unfold B_figures_119
  refine KX_if ?_ ?_
  · skip
    exact kx_B_figures_190.tr jw_rf
  · skip
    refine KX_if ?_ ?_
    · skip
      refine KX_if ?_ ?_
      · skip
        exact kx_B_figures_159.tr jw_rf
      · skip
        exact kx_B_figures_159.tr jw_rf
    · skip
      refine KX_if ?_ ?_
      · skip
        exact kx_B_figures_159.tr jw_rf
      · skip
        exact kx_B_figures_159.tr jw_rf
theorem kx_B_figures_103 {N : Nat} {l2 : Int32} {l3 : Int32} {l4 : Int32} {l5 : Int32} {s0 : Int32} {u : RSt}  : KX (B_figures_103 N l2 l3 l4 l5 s0 u) u := by
  unfold B_figures_103
  refine KX_if ?_ ?_
  · skip
    exact kx_B_figures_119.tr jw_rf
  · skip
    exact kx_B_figures_119.tr jw_rf
theorem kx_B_figures_81 {N : Nat} {l2 : Int32} {l3 : Int32} {l4 : Int32} {u : RSt}  : KX (B_figures_81 N l2 l3 l4 u) u := by
  unfold B_figures_81
  refine KX_bn (kx_F_see.tr jw_rf) (fun _ _ => ?_)
  refine KX_if ?_ ?_
  · skip
    exact kx_B_figures_103.tr jw_rf
  · skip
    exact kx_B_figures_103.tr jw_rf
theorem kx_B_figures_43 {N : Nat} {R_43 : Int32 × Int32 × Int32 × RSt → Option (Int32 × RSt)} {l2 : Int32} {l3 : Int32} {l4 : Int32} {u : RSt} (h_R_43 : ∀ a, KX (R_43 a) a.2.2.2) : KX (B_figures_43 N R_43 l2 l3 l4 u) u := by
  unfold B_figures_43
  refine KX_if ?_ ?_
  · skip
    refine KX_bn (kx_F_see.tr jw_rf) (fun _ _ => ?_)
    refine KX_if ?_ ?_
    · skip
      exact kx_B_figures_81.tr jw_rf
    · skip
      exact (kx_B_figures_75 h_R_43).tr jw_rf
  · skip
    refine KX_bn (kx_F_see.tr jw_rf) (fun _ _ => ?_)
    refine KX_if ?_ ?_
    · skip
      exact kx_B_figures_81.tr jw_rf
    · skip
      exact (kx_B_figures_75 h_R_43).tr jw_rf
theorem kx_LP_figures_43 {N : Nat}  (n : Nat) : ∀ a : Int32 × Int32 × Int32 × RSt, KX (LP_figures_43 N n a) a.2.2.2 := by
  induction n with
  | zero => exact fun a r z e => by have e : (none : Option _) = some (r, z) := e; cases e
  | succ n ih =>
    intro a
    show KX (B_figures_43 N (LP_figures_43 N n) a.1 a.2.1 a.2.2.1 a.2.2.2) a.2.2.2
    exact kx_B_figures_43 ih
theorem kx_B_figures_39 {N : Nat} {l2 : Int32} {s0 : Int32} {u : RSt}  : KX (B_figures_39 N l2 s0 u) u := by
  unfold B_figures_39
  exact (kx_LP_figures_43  _ _).tr jw_rf
theorem kx_B_figures_27 {N : Nat} {l1 : Int32} {s0 : Int32} {u : RSt}  : KX (B_figures_27 N l1 s0 u) u := by
  unfold B_figures_27
  refine KX_if ?_ ?_
  · skip
    exact kx_B_figures_39.tr jw_rf
  · skip
    exact kx_B_figures_39.tr jw_rf
theorem kx_B_figures_26 {N : Nat} {l1 : Int32} {u : RSt}  : KX (B_figures_26 N l1 u) u := by
  unfold B_figures_26
  exact kx_B_figures_27.tr jw_rf
theorem kx_B_figures_0 {N : Nat} {l1 : Int32} {u : RSt}  : KX (B_figures_0 N l1 u) u := by
  unfold B_figures_0
  refine KX_bn (kx_F_see.tr jw_rf) (fun _ _ => ?_)
  refine KX_if ?_ ?_
  · skip
    refine KX_bn (kx_F_see.tr jw_rf) (fun _ _ => ?_)
    refine KX_if ?_ ?_
    · skip
      exact kx_B_figures_27.tr jw_rf
    · skip
      exact kx_B_figures_26.tr jw_rf
  · skip
    exact kx_B_figures_26.tr jw_rf
theorem kx_F_figures {N : Nat} {l1 : Int32} {u : RSt}  : KX (F_figures N l1 u) u := by
  unfold F_figures
  exact kx_B_figures_0.tr jw_rf
theorem kx_B_packed_8 {N : Nat} {R_8 : Int32 × Int32 × Int32 × Int64 × Int32 × RSt → Option (Int64 × RSt)} {l1 : Int32} {l2 : Int32} {l3 : Int32} {l4 : Int64} {l6 : Int32} {u : RSt} (h_R_8 : ∀ a, KX (R_8 a) a.2.2.2.2.2) : KX (B_packed_8 N R_8 l1 l2 l3 l4 l6 u) u := by
  unfold B_packed_8
  refine KX_if ?_ ?_
  · skip
    exact KX_some jw_rf
  · skip
    refine KX_if ?_ ?_
    · skip
      exact KX_some jw_rf
    · skip
      refine KX_bn (kx_F_see.tr jw_rf) (fun _ _ => ?_)
      exact (h_R_8 _).tr jw_rf
theorem kx_LP_packed_8 {N : Nat}  (n : Nat) : ∀ a : Int32 × Int32 × Int32 × Int64 × Int32 × RSt, KX (LP_packed_8 N n a) a.2.2.2.2.2 := by
  induction n with
  | zero => exact fun a r z e => by have e : (none : Option _) = some (r, z) := e; cases e
  | succ n ih =>
    intro a
    show KX (B_packed_8 N (LP_packed_8 N n) a.1 a.2.1 a.2.2.1 a.2.2.2.1 a.2.2.2.2.1 a.2.2.2.2.2) a.2.2.2.2.2
    exact kx_B_packed_8 ih
theorem kx_B_packed_0 {N : Nat} {l1 : Int32} {l2 : Int32} {l3 : Int32} {u : RSt}  : KX (B_packed_0 N l1 l2 l3 u) u := by
  unfold B_packed_0
  exact (kx_LP_packed_8  _ _).tr jw_rf
theorem kx_F_packed {N : Nat} {l1 : Int32} {l2 : Int32} {l3 : Int32} {u : RSt}  : KX (F_packed N l1 l2 l3 u) u := by
  unfold F_packed
  exact kx_B_packed_0.tr jw_rf
theorem kx_B_find_75 {N : Nat} {R_49 : Int32 × Int32 × Int32 × RSt → Option (Int32 × RSt)} {l1 : Int32} {l3 : Int32} {s0 : Int32} {u : RSt} (h_R_49 : ∀ a, KX (R_49 a) a.2.2.2) : KX (B_find_75 N R_49 l1 l3 s0 u) u := by
  unfold B_find_75
  exact (h_R_49 _).tr jw_rf
theorem kx_B_find_453 {N : Nat} {R_204 : Int32 × Int64 × Int64 × Int32 × Int32 × RSt → Option (Int32 × RSt)} {l1 : Int32} {l3 : Int64} {l5 : Int64} {l7 : Int32} {l8 : Int32} {u : RSt} (h_R_204 : ∀ a, KX (R_204 a) a.2.2.2.2.2) : KX (B_find_453 N R_204 l1 l3 l5 l7 l8 u) u := by
  unfold B_find_453
  exact (h_R_204 _).tr jw_rf
theorem kx_B_find_433 {N : Nat} {R_204 : Int32 × Int64 × Int64 × Int32 × Int32 × RSt → Option (Int32 × RSt)} {l1 : Int32} {l3 : Int64} {l5 : Int64} {l7 : Int32} {l8 : Int32} {l9 : Int64} {s0 : Int64} {u : RSt} (h_R_204 : ∀ a, KX (R_204 a) a.2.2.2.2.2) : KX (B_find_433 N R_204 l1 l3 l5 l7 l8 l9 s0 u) u := by
  unfold B_find_433
  refine KX_if ?_ ?_
  · skip
    refine KX_if ?_ ?_
    · skip
      exact KX_some jw_rf
    · skip
      exact (kx_B_find_453 h_R_204).tr jw_rf
  · skip
    exact (kx_B_find_453 h_R_204).tr jw_rf
theorem kx_B_find_321 {N : Nat} {R_204 : Int32 × Int64 × Int64 × Int32 × Int32 × RSt → Option (Int32 × RSt)} {l1 : Int32} {l3 : Int64} {l5 : Int64} {l7 : Int32} {l8 : Int32} {s0 : Int64} {u : RSt} (h_R_204 : ∀ a, KX (R_204 a) a.2.2.2.2.2) : KX (B_find_321 N R_204 l1 l3 l5 l7 l8 s0 u) u := by
  unfold B_find_321
  refine KX_if ?_ ?_
  · skip
    refine KX_rd (fun _ => ?_)
    exact (kx_B_find_433 h_R_204).tr jw_rf
  · skip
    refine KX_if ?_ ?_
    · skip
      refine KX_rd (fun _ => ?_)
      exact (kx_B_find_433 h_R_204).tr jw_rf
    · skip
      refine KX_if ?_ ?_
      · skip
        refine KX_rd (fun _ => ?_)
        exact (kx_B_find_433 h_R_204).tr jw_rf
      · skip
        refine KX_if ?_ ?_
        · skip
          refine KX_rd (fun _ => ?_)
          exact (kx_B_find_433 h_R_204).tr jw_rf
        · skip
          refine KX_rd (fun _ => ?_)
          exact (kx_B_find_433 h_R_204).tr jw_rf
theorem kx_B_find_204 {N : Nat} {R_204 : Int32 × Int64 × Int64 × Int32 × Int32 × RSt → Option (Int32 × RSt)} {l1 : Int32} {l3 : Int64} {l5 : Int64} {l7 : Int32} {l8 : Int32} {u : RSt} (h_R_204 : ∀ a, KX (R_204 a) a.2.2.2.2.2) : KX (B_find_204 N R_204 l1 l3 l5 l7 l8 u) u := by
  unfold B_find_204
  refine KX_if ?_ ?_
  · skip
    exact KX_some jw_rf
  · skip
    refine KX_if ?_ ?_
    · skip
      refine KX_rd (fun _ => ?_)
      exact (kx_B_find_321 h_R_204).tr jw_rf
    · skip
      refine KX_if ?_ ?_
      · skip
        refine KX_rd (fun _ => ?_)
        exact (kx_B_find_321 h_R_204).tr jw_rf
      · skip
        refine KX_if ?_ ?_
        · skip
          refine KX_rd (fun _ => ?_)
          exact (kx_B_find_321 h_R_204).tr jw_rf
        · skip
          refine KX_if ?_ ?_
          · skip
            refine KX_rd (fun _ => ?_)
            exact (kx_B_find_321 h_R_204).tr jw_rf
          · skip
            refine KX_rd (fun _ => ?_)
            exact (kx_B_find_321 h_R_204).tr jw_rf
theorem kx_LP_find_204 {N : Nat}  (n : Nat) : ∀ a : Int32 × Int64 × Int64 × Int32 × Int32 × RSt, KX (LP_find_204 N n a) a.2.2.2.2.2 := by
  induction n with
  | zero => exact fun a r z e => by have e : (none : Option _) = some (r, z) := e; cases e
  | succ n ih =>
    intro a
    show KX (B_find_204 N (LP_find_204 N n) a.1 a.2.1 a.2.2.1 a.2.2.2.1 a.2.2.2.2.1 a.2.2.2.2.2) a.2.2.2.2.2
    exact kx_B_find_204 ih
theorem kx_B_find_199 {N : Nat} {l1 : Int32} {l3 : Int64} {l5 : Int64} {s0 : Int32} {u : RSt}  : KX (B_find_199 N l1 l3 l5 s0 u) u := by
  unfold B_find_199
  exact (kx_LP_find_204  _ _).tr jw_rf
theorem kx_B_find_82 {N : Nat} {l1 : Int32} {l2 : Int32} {u : RSt}  : KX (B_find_82 N l1 l2 u) u := by
  unfold B_find_82
  refine KX_if ?_ ?_
  · skip
    refine KX_if ?_ ?_
    · skip
      exact KX_some jw_rf
    · skip
      exact KX_some jw_rf
  · skip
    refine KX_bn (kx_F_packed.tr jw_rf) (fun _ _ => ?_)
    refine KX_bn (kx_F_packed.tr jw_rf) (fun _ _ => ?_)
    refine KX_if ?_ ?_
    · skip
      refine KX_rd (fun _ => ?_)
      exact kx_B_find_199.tr jw_rf
    · skip
      refine KX_if ?_ ?_
      · skip
        refine KX_rd (fun _ => ?_)
        exact kx_B_find_199.tr jw_rf
      · skip
        refine KX_if ?_ ?_
        · skip
          refine KX_rd (fun _ => ?_)
          exact kx_B_find_199.tr jw_rf
        · skip
          refine KX_if ?_ ?_
          · skip
            refine KX_rd (fun _ => ?_)
            exact kx_B_find_199.tr jw_rf
          · skip
            refine KX_rd (fun _ => ?_)
            exact kx_B_find_199.tr jw_rf
theorem kx_B_find_49 {N : Nat} {R_49 : Int32 × Int32 × Int32 × RSt → Option (Int32 × RSt)} {l1 : Int32} {l2 : Int32} {l3 : Int32} {u : RSt} (h_R_49 : ∀ a, KX (R_49 a) a.2.2.2) : KX (B_find_49 N R_49 l1 l2 l3 u) u := by
  unfold B_find_49
  refine KX_if ?_ ?_
  · skip
    exact kx_B_find_82.tr jw_rf
  · skip
    refine KX_if ?_ ?_
    · skip
      exact kx_B_find_82.tr jw_rf
    · skip
      refine KX_rd (fun _ => ?_)
      refine KX_if ?_ ?_
      · skip
        exact (kx_B_find_75 h_R_49).tr jw_rf
      · skip
        exact (kx_B_find_75 h_R_49).tr jw_rf
theorem kx_LP_find_49 {N : Nat}  (n : Nat) : ∀ a : Int32 × Int32 × Int32 × RSt, KX (LP_find_49 N n a) a.2.2.2 := by
  induction n with
  | zero => exact fun a r z e => by have e : (none : Option _) = some (r, z) := e; cases e
  | succ n ih =>
    intro a
    show KX (B_find_49 N (LP_find_49 N n) a.1 a.2.1 a.2.2.1 a.2.2.2) a.2.2.2
    exact kx_B_find_49 ih
theorem kx_B_find_46 {N : Nat} {l1 : Int32} {s0 : Int32} {u : RSt}  : KX (B_find_46 N l1 s0 u) u := by
  unfold B_find_46
  exact (kx_LP_find_49  _ _).tr jw_rf
theorem kx_B_find_45 {N : Nat} {l1 : Int32} {u : RSt}  : KX (B_find_45 N l1 u) u := by
  unfold B_find_45
  exact kx_B_find_46.tr jw_rf
theorem kx_B_find_15 {N : Nat} {l1 : Int32} {s1 : Int32} {u : RSt}  : KX (B_find_15 N l1 s1 u) u := by
  unfold B_find_15
  refine KX_pu ?_
  refine KX_if ?_ ?_
  · skip
    exact kx_B_find_45.tr (fx_sI (by decide) jw_rf)
  · skip
    refine KX_if ?_ ?_
    · skip
      exact kx_B_find_45.tr (fx_sI (by decide) jw_rf)
    · skip
      refine KX_if ?_ ?_
      · skip
        exact kx_B_find_46.tr (fx_sI (by decide) jw_rf)
      · skip
        exact kx_B_find_45.tr (fx_sI (by decide) jw_rf)
theorem kx_B_find_0 {N : Nat} {l1 : Int32} {u : RSt}  : KX (B_find_0 N l1 u) u := by
  unfold B_find_0
  refine KX_if ?_ ?_
  · skip
    exact kx_B_find_15.tr jw_rf
  · skip
    exact kx_B_find_15.tr jw_rf
theorem kx_F_find {N : Nat} {l1 : Int32} {u : RSt}  : KX (F_find N l1 u) u := by
  unfold F_find
  exact kx_B_find_0.tr jw_rf
theorem kx_B_among_3_87 {N : Nat} {R_9 : Int32 × Int32 × Int32 × Int32 × Int32 × RSt → Option (Int32 × RSt)} {R_51 : Int32 × Int32 × Int32 × Int32 × Int32 × Int32 × Int32 × RSt → Option (Int32 × RSt)} {l2 : Int32} {l3 : Int32} {l4 : Int32} {l5 : Int32} {l6 : Int32} {l8 : Int32} {s0 : Int32} {u : RSt} (h_R_9 : ∀ a, KX (R_9 a) a.2.2.2.2.2) (h_R_51 : ∀ a, KX (R_51 a) a.2.2.2.2.2.2.2) : KX (B_among_3_87 N R_9 R_51 l2 l3 l4 l5 l6 l8 s0 u) u := by
  unfold B_among_3_87
  exact (h_R_51 _).tr jw_rf
theorem kx_B_among_3_112 {N : Nat} {R_9 : Int32 × Int32 × Int32 × Int32 × Int32 × RSt → Option (Int32 × RSt)} {l2 : Int32} {l3 : Int32} {l4 : Int32} {l5 : Int32} {l6 : Int32} {u : RSt} (h_R_9 : ∀ a, KX (R_9 a) a.2.2.2.2.2) : KX (B_among_3_112 N R_9 l2 l3 l4 l5 l6 u) u := by
  unfold B_among_3_112
  exact (h_R_9 _).tr jw_rf
theorem kx_B_among_3_95 {N : Nat} {R_9 : Int32 × Int32 × Int32 × Int32 × Int32 × RSt → Option (Int32 × RSt)} {l2 : Int32} {l3 : Int32} {l4 : Int32} {l6 : Int32} {l7 : Int32} {u : RSt} (h_R_9 : ∀ a, KX (R_9 a) a.2.2.2.2.2) : KX (B_among_3_95 N R_9 l2 l3 l4 l6 l7 u) u := by
  unfold B_among_3_95
  refine KX_if ?_ ?_
  · skip
    exact (kx_B_among_3_112 h_R_9).tr jw_rf
  · skip
    exact KX_some jw_rf
theorem kx_B_among_3_51 {N : Nat} {R_9 : Int32 × Int32 × Int32 × Int32 × Int32 × RSt → Option (Int32 × RSt)} {R_51 : Int32 × Int32 × Int32 × Int32 × Int32 × Int32 × Int32 × RSt → Option (Int32 × RSt)} {l2 : Int32} {l3 : Int32} {l4 : Int32} {l5 : Int32} {l6 : Int32} {l7 : Int32} {l8 : Int32} {u : RSt} (h_R_9 : ∀ a, KX (R_9 a) a.2.2.2.2.2) (h_R_51 : ∀ a, KX (R_51 a) a.2.2.2.2.2.2.2) : KX (B_among_3_51 N R_9 R_51 l2 l3 l4 l5 l6 l7 l8 u) u := by
  unfold B_among_3_51
  refine KX_if ?_ ?_
  · skip
    exact (kx_B_among_3_95 h_R_9).tr jw_rf
  · skip
    refine KX_if ?_ ?_
    · skip
      exact (kx_B_among_3_95 h_R_9).tr jw_rf
    · skip
      refine KX_rd (fun _ => ?_)
      refine KX_bn (kx_F_see.tr jw_rf) (fun _ _ => ?_)
      refine KX_if ?_ ?_
      · skip
        exact (kx_B_among_3_87 h_R_9 h_R_51).tr jw_rf
      · skip
        exact (kx_B_among_3_87 h_R_9 h_R_51).tr jw_rf
theorem kx_LP_among_3_51 {N : Nat} {R_9 : Int32 × Int32 × Int32 × Int32 × Int32 × RSt → Option (Int32 × RSt)} (h_R_9 : ∀ a, KX (R_9 a) a.2.2.2.2.2) (n : Nat) : ∀ a : Int32 × Int32 × Int32 × Int32 × Int32 × Int32 × Int32 × RSt, KX (LP_among_3_51 N R_9 n a) a.2.2.2.2.2.2.2 := by
  induction n with
  | zero => exact fun a r z e => by have e : (none : Option _) = some (r, z) := e; cases e
  | succ n ih =>
    intro a
    show KX (B_among_3_51 N R_9 (LP_among_3_51 N R_9 n) a.1 a.2.1 a.2.2.1 a.2.2.2.1 a.2.2.2.2.1 a.2.2.2.2.2.1 a.2.2.2.2.2.2.1 a.2.2.2.2.2.2.2) a.2.2.2.2.2.2.2
    exact kx_B_among_3_51 h_R_9 ih
theorem kx_B_among_3_46 {N : Nat} {R_9 : Int32 × Int32 × Int32 × Int32 × Int32 × RSt → Option (Int32 × RSt)} {l2 : Int32} {l3 : Int32} {l4 : Int32} {l5 : Int32} {l6 : Int32} {s0 : Int32} {u : RSt} (h_R_9 : ∀ a, KX (R_9 a) a.2.2.2.2.2) : KX (B_among_3_46 N R_9 l2 l3 l4 l5 l6 s0 u) u := by
  unfold B_among_3_46
  exact (kx_LP_among_3_51 h_R_9 _ _).tr jw_rf
theorem kx_B_among_3_9 {N : Nat} {R_9 : Int32 × Int32 × Int32 × Int32 × Int32 × RSt → Option (Int32 × RSt)} {l2 : Int32} {l3 : Int32} {l4 : Int32} {l5 : Int32} {l6 : Int32} {u : RSt} (h_R_9 : ∀ a, KX (R_9 a) a.2.2.2.2.2) : KX (B_among_3_9 N R_9 l2 l3 l4 l5 l6 u) u := by
  unfold B_among_3_9
  refine KX_if ?_ ?_
  · skip
    exact KX_some jw_rf
  · skip
    refine KX_rd (fun _ => ?_)
    refine KX_if ?_ ?_
    · skip
      refine KX_if ?_ ?_
      · skip
        exact (kx_B_among_3_46 h_R_9).tr jw_rf
      · skip
        exact (kx_B_among_3_46 h_R_9).tr jw_rf
    · skip
      exact (kx_B_among_3_112 h_R_9).tr jw_rf
theorem kx_LP_among_3_9 {N : Nat}  (n : Nat) : ∀ a : Int32 × Int32 × Int32 × Int32 × Int32 × RSt, KX (LP_among_3_9 N n a) a.2.2.2.2.2 := by
  induction n with
  | zero => exact fun a r z e => by have e : (none : Option _) = some (r, z) := e; cases e
  | succ n ih =>
    intro a
    show KX (B_among_3_9 N (LP_among_3_9 N n) a.1 a.2.1 a.2.2.1 a.2.2.2.1 a.2.2.2.2.1 a.2.2.2.2.2) a.2.2.2.2.2
    exact kx_B_among_3_9 ih
theorem kx_B_among_3_0 {N : Nat} {l2 : Int32} {l3 : Int32} {u : RSt}  : KX (B_among_3_0 N l2 l3 u) u := by
  unfold B_among_3_0
  exact (kx_LP_among_3_9  _ _).tr jw_rf
theorem kx_F_among_3 {N : Nat} {l2 : Int32} {l3 : Int32} {u : RSt}  : KX (F_among_3 N l2 l3 u) u := by
  unfold F_among_3
  exact kx_B_among_3_0.tr jw_rf
theorem kx_B_among_4_87 {N : Nat} {R_9 : Int32 × Int32 × Int32 × Int32 × Int32 × RSt → Option (Int32 × RSt)} {R_51 : Int32 × Int32 × Int32 × Int32 × Int32 × Int32 × Int32 × RSt → Option (Int32 × RSt)} {l2 : Int32} {l3 : Int32} {l4 : Int32} {l5 : Int32} {l6 : Int32} {l8 : Int32} {s0 : Int32} {u : RSt} (h_R_9 : ∀ a, KX (R_9 a) a.2.2.2.2.2) (h_R_51 : ∀ a, KX (R_51 a) a.2.2.2.2.2.2.2) : KX (B_among_4_87 N R_9 R_51 l2 l3 l4 l5 l6 l8 s0 u) u := by
  unfold B_among_4_87
  exact (h_R_51 _).tr jw_rf
theorem kx_B_among_4_112 {N : Nat} {R_9 : Int32 × Int32 × Int32 × Int32 × Int32 × RSt → Option (Int32 × RSt)} {l2 : Int32} {l3 : Int32} {l4 : Int32} {l5 : Int32} {l6 : Int32} {u : RSt} (h_R_9 : ∀ a, KX (R_9 a) a.2.2.2.2.2) : KX (B_among_4_112 N R_9 l2 l3 l4 l5 l6 u) u := by
  unfold B_among_4_112
  exact (h_R_9 _).tr jw_rf
theorem kx_B_among_4_95 {N : Nat} {R_9 : Int32 × Int32 × Int32 × Int32 × Int32 × RSt → Option (Int32 × RSt)} {l2 : Int32} {l3 : Int32} {l4 : Int32} {l6 : Int32} {l7 : Int32} {u : RSt} (h_R_9 : ∀ a, KX (R_9 a) a.2.2.2.2.2) : KX (B_among_4_95 N R_9 l2 l3 l4 l6 l7 u) u := by
  unfold B_among_4_95
  refine KX_if ?_ ?_
  · skip
    exact (kx_B_among_4_112 h_R_9).tr jw_rf
  · skip
    exact KX_some jw_rf
theorem kx_B_among_4_51 {N : Nat} {R_9 : Int32 × Int32 × Int32 × Int32 × Int32 × RSt → Option (Int32 × RSt)} {R_51 : Int32 × Int32 × Int32 × Int32 × Int32 × Int32 × Int32 × RSt → Option (Int32 × RSt)} {l2 : Int32} {l3 : Int32} {l4 : Int32} {l5 : Int32} {l6 : Int32} {l7 : Int32} {l8 : Int32} {u : RSt} (h_R_9 : ∀ a, KX (R_9 a) a.2.2.2.2.2) (h_R_51 : ∀ a, KX (R_51 a) a.2.2.2.2.2.2.2) : KX (B_among_4_51 N R_9 R_51 l2 l3 l4 l5 l6 l7 l8 u) u := by
  unfold B_among_4_51
  refine KX_if ?_ ?_
  · skip
    exact (kx_B_among_4_95 h_R_9).tr jw_rf
  · skip
    refine KX_if ?_ ?_
    · skip
      exact (kx_B_among_4_95 h_R_9).tr jw_rf
    · skip
      refine KX_rd (fun _ => ?_)
      refine KX_bn (kx_F_see.tr jw_rf) (fun _ _ => ?_)
      refine KX_if ?_ ?_
      · skip
        exact (kx_B_among_4_87 h_R_9 h_R_51).tr jw_rf
      · skip
        exact (kx_B_among_4_87 h_R_9 h_R_51).tr jw_rf
theorem kx_LP_among_4_51 {N : Nat} {R_9 : Int32 × Int32 × Int32 × Int32 × Int32 × RSt → Option (Int32 × RSt)} (h_R_9 : ∀ a, KX (R_9 a) a.2.2.2.2.2) (n : Nat) : ∀ a : Int32 × Int32 × Int32 × Int32 × Int32 × Int32 × Int32 × RSt, KX (LP_among_4_51 N R_9 n a) a.2.2.2.2.2.2.2 := by
  induction n with
  | zero => exact fun a r z e => by have e : (none : Option _) = some (r, z) := e; cases e
  | succ n ih =>
    intro a
    show KX (B_among_4_51 N R_9 (LP_among_4_51 N R_9 n) a.1 a.2.1 a.2.2.1 a.2.2.2.1 a.2.2.2.2.1 a.2.2.2.2.2.1 a.2.2.2.2.2.2.1 a.2.2.2.2.2.2.2) a.2.2.2.2.2.2.2
    exact kx_B_among_4_51 h_R_9 ih
theorem kx_B_among_4_46 {N : Nat} {R_9 : Int32 × Int32 × Int32 × Int32 × Int32 × RSt → Option (Int32 × RSt)} {l2 : Int32} {l3 : Int32} {l4 : Int32} {l5 : Int32} {l6 : Int32} {s0 : Int32} {u : RSt} (h_R_9 : ∀ a, KX (R_9 a) a.2.2.2.2.2) : KX (B_among_4_46 N R_9 l2 l3 l4 l5 l6 s0 u) u := by
  unfold B_among_4_46
  exact (kx_LP_among_4_51 h_R_9 _ _).tr jw_rf
theorem kx_B_among_4_9 {N : Nat} {R_9 : Int32 × Int32 × Int32 × Int32 × Int32 × RSt → Option (Int32 × RSt)} {l2 : Int32} {l3 : Int32} {l4 : Int32} {l5 : Int32} {l6 : Int32} {u : RSt} (h_R_9 : ∀ a, KX (R_9 a) a.2.2.2.2.2) : KX (B_among_4_9 N R_9 l2 l3 l4 l5 l6 u) u := by
  unfold B_among_4_9
  refine KX_if ?_ ?_
  · skip
    exact KX_some jw_rf
  · skip
    refine KX_rd (fun _ => ?_)
    refine KX_if ?_ ?_
    · skip
      refine KX_if ?_ ?_
      · skip
        exact (kx_B_among_4_46 h_R_9).tr jw_rf
      · skip
        exact (kx_B_among_4_46 h_R_9).tr jw_rf
    · skip
      exact (kx_B_among_4_112 h_R_9).tr jw_rf
theorem kx_LP_among_4_9 {N : Nat}  (n : Nat) : ∀ a : Int32 × Int32 × Int32 × Int32 × Int32 × RSt, KX (LP_among_4_9 N n a) a.2.2.2.2.2 := by
  induction n with
  | zero => exact fun a r z e => by have e : (none : Option _) = some (r, z) := e; cases e
  | succ n ih =>
    intro a
    show KX (B_among_4_9 N (LP_among_4_9 N n) a.1 a.2.1 a.2.2.1 a.2.2.2.1 a.2.2.2.2.1 a.2.2.2.2.2) a.2.2.2.2.2
    exact kx_B_among_4_9 ih
theorem kx_B_among_4_0 {N : Nat} {l2 : Int32} {l3 : Int32} {u : RSt}  : KX (B_among_4_0 N l2 l3 u) u := by
  unfold B_among_4_0
  exact (kx_LP_among_4_9  _ _).tr jw_rf
theorem kx_F_among_4 {N : Nat} {l2 : Int32} {l3 : Int32} {u : RSt}  : KX (F_among_4 N l2 l3 u) u := by
  unfold F_among_4
  exact kx_B_among_4_0.tr jw_rf
theorem kx_B_word_24 {N : Nat} {R_2 : Int32 × Int32 × RSt → Option (Int32 × RSt)} {l1 : Int32} {l2 : Int32} {u : RSt} (h_R_2 : ∀ a, KX (R_2 a) a.2.2) : KX (B_word_24 N R_2 l1 l2 u) u := by
  unfold B_word_24
  exact (h_R_2 _).tr jw_rf
theorem kx_B_word_2 {N : Nat} {R_2 : Int32 × Int32 × RSt → Option (Int32 × RSt)} {l1 : Int32} {l2 : Int32} {u : RSt} (h_R_2 : ∀ a, KX (R_2 a) a.2.2) : KX (B_word_2 N R_2 l1 l2 u) u := by
  unfold B_word_2
  refine KX_bn (kx_F_see.tr jw_rf) (fun _ _ => ?_)
  refine KX_if ?_ ?_
  · skip
    refine KX_bn (kx_F_see.tr jw_rf) (fun _ _ => ?_)
    refine KX_if ?_ ?_
    · skip
      refine KX_bn (kx_F_among_3.tr jw_rf) (fun _ _ => ?_)
      refine KX_if ?_ ?_
      · skip
        refine KX_if ?_ ?_
        · skip
          exact KX_some jw_rf
        · skip
          refine KX_wr ?_
          refine KX_bn (kx_F_packed.tr (fx_sA (by decide) jw_rf)) (fun _ _ => ?_)
          refine KX_wr ?_
          refine KX_bn (kx_F_packed.tr (fx_sB jw_rf)) (fun _ _ => ?_)
          refine KX_wr ?_
          exact KX_some (fx_sB jw_rf)
      · skip
        refine KX_wr ?_
        exact KX_some (fx_sA (by decide) jw_rf)
    · skip
      exact (kx_B_word_24 h_R_2).tr jw_rf
  · skip
    exact (kx_B_word_24 h_R_2).tr jw_rf
theorem kx_LP_word_2 {N : Nat}  (n : Nat) : ∀ a : Int32 × Int32 × RSt, KX (LP_word_2 N n a) a.2.2 := by
  induction n with
  | zero => exact fun a r z e => by have e : (none : Option _) = some (r, z) := e; cases e
  | succ n ih =>
    intro a
    show KX (B_word_2 N (LP_word_2 N n) a.1 a.2.1 a.2.2) a.2.2
    exact kx_B_word_2 ih
theorem kx_B_word_0 {N : Nat} {l1 : Int32} {u : RSt}  : KX (B_word_0 N l1 u) u := by
  unfold B_word_0
  exact (kx_LP_word_2  _ _).tr jw_rf
theorem kx_F_word {N : Nat} {l1 : Int32} {u : RSt}  : KX (F_word N l1 u) u := by
  unfold F_word
  exact kx_B_word_0.tr jw_rf
theorem kx_B_token_164 {N : Nat} {R_135 : Int32 × Int32 × Int32 × RSt → Option (Int32 × RSt)} {l1 : Int32} {l3 : Int32} {l4 : Int32} {s0 : Int32} {u : RSt} (h_R_135 : ∀ a, KX (R_135 a) a.2.2.2) : KX (B_token_164 N R_135 l1 l3 l4 s0 u) u := by
  unfold B_token_164
  refine KX_if ?_ ?_
  · skip
    exact (h_R_135 _).tr jw_rf
  · skip
    refine KX_wr ?_
    exact KX_some (fx_sA (by decide) jw_rf)
theorem kx_B_token_135 {N : Nat} {R_135 : Int32 × Int32 × Int32 × RSt → Option (Int32 × RSt)} {l1 : Int32} {l3 : Int32} {l4 : Int32} {u : RSt} (h_R_135 : ∀ a, KX (R_135 a) a.2.2.2) : KX (B_token_135 N R_135 l1 l3 l4 u) u := by
  unfold B_token_135
  refine KX_if ?_ ?_
  · skip
    exact KX_some jw_rf
  · skip
    refine KX_if ?_ ?_
    · skip
      exact (kx_B_token_164 h_R_135).tr jw_rf
    · skip
      refine KX_bn (kx_F_among_4.tr jw_rf) (fun _ _ => ?_)
      exact (kx_B_token_164 h_R_135).tr jw_rf
theorem kx_LP_token_135 {N : Nat}  (n : Nat) : ∀ a : Int32 × Int32 × Int32 × RSt, KX (LP_token_135 N n a) a.2.2.2 := by
  induction n with
  | zero => exact fun a r z e => by have e : (none : Option _) = some (r, z) := e; cases e
  | succ n ih =>
    intro a
    show KX (B_token_135 N (LP_token_135 N n) a.1 a.2.1 a.2.2.1 a.2.2.2) a.2.2.2
    exact kx_B_token_135 ih
theorem kx_B_token_0 {N : Nat} {l1 : Int32} {u : RSt}  : KX (B_token_0 N l1 u) u := by
  unfold B_token_0
  refine KX_bn (kx_F_see.tr jw_rf) (fun _ _ => ?_)
  refine KX_wr ?_
  refine KX_wr ?_
  refine KX_wr ?_
  refine KX_wr ?_
  refine KX_if ?_ ?_
  · skip
    refine KX_if ?_ ?_
    · skip
      refine KX_if ?_ ?_
      · skip
        refine KX_bn (kx_F_see.tr (fx_sB (fx_sA (by decide) (fx_sA (by decide) (fx_sA (by decide) jw_rf))))) (fun _ _ => ?_)
        refine KX_if ?_ ?_
        · skip
          exact KX_some jw_rf
        · skip
          refine KX_bn (kx_F_see.tr jw_rf) (fun _ _ => ?_)
          refine KX_if ?_ ?_
          · skip
            exact KX_some jw_rf
          · skip
            refine KX_bn (kx_F_see.tr jw_rf) (fun _ _ => ?_)
            refine KX_if ?_ ?_
            · skip
              refine KX_wr ?_
              refine KX_bn (kx_F_see.tr (fx_sA (by decide) jw_rf)) (fun _ _ => ?_)
              refine KX_wr ?_
              exact KX_some (fx_sB jw_rf)
            · skip
              exact KX_some jw_rf
      · skip
        exact (kx_LP_token_135  _ _).tr (fx_sB (fx_sA (by decide) (fx_sA (by decide) (fx_sA (by decide) jw_rf))))
    · skip
      refine KX_bn (kx_F_figures.tr (fx_sB (fx_sA (by decide) (fx_sA (by decide) (fx_sA (by decide) jw_rf))))) (fun _ _ => ?_)
      exact KX_some jw_rf
  · skip
    refine KX_bn (kx_F_word.tr (fx_sB (fx_sA (by decide) (fx_sA (by decide) (fx_sA (by decide) jw_rf))))) (fun _ _ => ?_)
    exact KX_some jw_rf
theorem kx_F_token {N : Nat} {l1 : Int32} {u : RSt}  : KX (F_token N l1 u) u := by
  unfold F_token
  exact kx_B_token_0.tr jw_rf
theorem kx_B_cutAll_58 {N : Nat} {R_9 : Int32 × Int32 × RSt → Option (Int32 × RSt)} {R_15 : Int32 × Int32 × Int32 × RSt → Option (Int32 × RSt)} {R_58 : Int32 × Int32 × Int32 × RSt → Option (Int32 × RSt)} {l1 : Int32} {l2 : Int32} {l3 : Int32} {u : RSt} (h_R_9 : ∀ a, KX (R_9 a) a.2.2) (h_R_15 : ∀ a, KX (R_15 a) a.2.2.2) (h_R_58 : ∀ a, KX (R_58 a) a.2.2.2) : KX (B_cutAll_58 N R_9 R_15 R_58 l1 l2 l3 u) u := by
  unfold B_cutAll_58
  refine KX_if ?_ ?_
  · skip
    exact (h_R_15 _).tr jw_rf
  · skip
    refine KX_bn (kx_F_see.tr jw_rf) (fun _ _ => ?_)
    refine KX_if ?_ ?_
    · skip
      exact (h_R_15 _).tr jw_rf
    · skip
      exact (h_R_58 _).tr jw_rf
theorem kx_LP_cutAll_58 {N : Nat} {R_9 : Int32 × Int32 × RSt → Option (Int32 × RSt)} {R_15 : Int32 × Int32 × Int32 × RSt → Option (Int32 × RSt)} (h_R_9 : ∀ a, KX (R_9 a) a.2.2) (h_R_15 : ∀ a, KX (R_15 a) a.2.2.2) (n : Nat) : ∀ a : Int32 × Int32 × Int32 × RSt, KX (LP_cutAll_58 N R_9 R_15 n a) a.2.2.2 := by
  induction n with
  | zero => exact fun a r z e => by have e : (none : Option _) = some (r, z) := e; cases e
  | succ n ih =>
    intro a
    show KX (B_cutAll_58 N R_9 R_15 (LP_cutAll_58 N R_9 R_15 n) a.1 a.2.1 a.2.2.1 a.2.2.2) a.2.2.2
    exact kx_B_cutAll_58 h_R_9 h_R_15 ih
theorem kx_B_cutAll_82 {N : Nat} {R_9 : Int32 × Int32 × RSt → Option (Int32 × RSt)} {R_15 : Int32 × Int32 × Int32 × RSt → Option (Int32 × RSt)} {l1 : Int32} {l2 : Int32} {u : RSt} (h_R_9 : ∀ a, KX (R_9 a) a.2.2) (h_R_15 : ∀ a, KX (R_15 a) a.2.2.2) : KX (B_cutAll_82 N R_9 R_15 l1 l2 u) u := by
  unfold B_cutAll_82
  exact (h_R_15 _).tr jw_rf
theorem kx_B_cutAll_179 {N : Nat} {R_9 : Int32 × Int32 × RSt → Option (Int32 × RSt)} {l1 : Int32} {l2 : Int32} {u : RSt} (h_R_9 : ∀ a, KX (R_9 a) a.2.2) : KX (B_cutAll_179 N R_9 l1 l2 u) u := by
  unfold B_cutAll_179
  exact (h_R_9 _).tr jw_rf
theorem kx_B_cutAll_169 {N : Nat} {R_9 : Int32 × Int32 × RSt → Option (Int32 × RSt)} {l1 : Int32} {l2 : Int32} {u : RSt} (h_R_9 : ∀ a, KX (R_9 a) a.2.2) : KX (B_cutAll_169 N R_9 l1 l2 u) u := by
  unfold B_cutAll_169
  refine KX_pu ?_
  exact (kx_B_cutAll_179 h_R_9).tr (fx_sI (by decide) jw_rf)
theorem kx_B_cutAll_15 {N : Nat} {R_9 : Int32 × Int32 × RSt → Option (Int32 × RSt)} {R_15 : Int32 × Int32 × Int32 × RSt → Option (Int32 × RSt)} {l1 : Int32} {l2 : Int32} {l3 : Int32} {u : RSt} (h_R_9 : ∀ a, KX (R_9 a) a.2.2) (h_R_15 : ∀ a, KX (R_15 a) a.2.2.2) : KX (B_cutAll_15 N R_9 R_15 l1 l2 l3 u) u := by
  unfold B_cutAll_15
  refine KX_if ?_ ?_
  · skip
    refine KX_if ?_ ?_
    · skip
      refine KX_bn (kx_F_token.tr jw_rf) (fun _ _ => ?_)
      refine KX_rd (fun _ => ?_)
      refine KX_if ?_ ?_
      · skip
        exact (kx_B_cutAll_169 h_R_9).tr jw_rf
      · skip
        refine KX_if ?_ ?_
        · skip
          refine KX_wr ?_
          exact (kx_B_cutAll_169 h_R_9).tr (fx_sA (by decide) jw_rf)
        · skip
          exact (kx_B_cutAll_169 h_R_9).tr jw_rf
    · skip
      refine KX_wr ?_
      refine KX_wr ?_
      exact (kx_B_cutAll_179 h_R_9).tr (fx_sA (by decide) (fx_sA (by decide) jw_rf))
  · skip
    refine KX_bn (kx_F_see.tr jw_rf) (fun _ _ => ?_)
    refine KX_if ?_ ?_
    · skip
      refine KX_bn (kx_F_see.tr jw_rf) (fun _ _ => ?_)
      refine KX_if ?_ ?_
      · skip
        refine KX_bn (kx_F_see.tr jw_rf) (fun _ _ => ?_)
        refine KX_if ?_ ?_
        · skip
          exact (kx_LP_cutAll_58 h_R_9 h_R_15 _ _).tr jw_rf
        · skip
          exact (kx_B_cutAll_82 h_R_9 h_R_15).tr jw_rf
      · skip
        exact (kx_B_cutAll_82 h_R_9 h_R_15).tr jw_rf
    · skip
      exact (h_R_15 _).tr jw_rf
theorem kx_LP_cutAll_15 {N : Nat} {R_9 : Int32 × Int32 × RSt → Option (Int32 × RSt)} (h_R_9 : ∀ a, KX (R_9 a) a.2.2) (n : Nat) : ∀ a : Int32 × Int32 × Int32 × RSt, KX (LP_cutAll_15 N R_9 n a) a.2.2.2 := by
  induction n with
  | zero => exact fun a r z e => by have e : (none : Option _) = some (r, z) := e; cases e
  | succ n ih =>
    intro a
    show KX (B_cutAll_15 N R_9 (LP_cutAll_15 N R_9 n) a.1 a.2.1 a.2.2.1 a.2.2.2) a.2.2.2
    exact kx_B_cutAll_15 h_R_9 ih
theorem kx_B_cutAll_9 {N : Nat} {R_9 : Int32 × Int32 × RSt → Option (Int32 × RSt)} {l1 : Int32} {l2 : Int32} {u : RSt} (h_R_9 : ∀ a, KX (R_9 a) a.2.2) : KX (B_cutAll_9 N R_9 l1 l2 u) u := by
  unfold B_cutAll_9
  refine KX_if ?_ ?_
  · skip
    exact KX_some jw_rf
  · skip
    exact (kx_LP_cutAll_15 h_R_9 _ _).tr jw_rf
theorem kx_LP_cutAll_9 {N : Nat}  (n : Nat) : ∀ a : Int32 × Int32 × RSt, KX (LP_cutAll_9 N n a) a.2.2 := by
  induction n with
  | zero => exact fun a r z e => by have e : (none : Option _) = some (r, z) := e; cases e
  | succ n ih =>
    intro a
    show KX (B_cutAll_9 N (LP_cutAll_9 N n) a.1 a.2.1 a.2.2) a.2.2
    exact kx_B_cutAll_9 ih
theorem kx_B_cutAll_0 {N : Nat} {u : RSt}  : KX (B_cutAll_0 N u) u := by
  unfold B_cutAll_0
  refine KX_pu ?_
  exact (kx_LP_cutAll_9  _ _).tr (fx_sI (by decide) jw_rf)
theorem kx_F_cutAll {N : Nat} {u : RSt}  : KX (F_cutAll N u) u := by
  unfold F_cutAll
  exact kx_B_cutAll_0.tr jw_rf
theorem kx_B_eight_101 {N : Nat} {R_9 : Int64 × Int32 × RSt → Option (Int32 × RSt)} {l1 : Int64} {l3 : Int32} {u : RSt} (h_R_9 : ∀ a, KX (R_9 a) a.2.2) : KX (B_eight_101 N R_9 l1 l3 u) u := by
  unfold B_eight_101
  exact (h_R_9 _).tr jw_rf
theorem kx_B_eight_9 {N : Nat} {R_9 : Int64 × Int32 × RSt → Option (Int32 × RSt)} {l1 : Int64} {l3 : Int32} {u : RSt} (h_R_9 : ∀ a, KX (R_9 a) a.2.2) : KX (B_eight_9 N R_9 l1 l3 u) u := by
  unfold B_eight_9
  refine KX_if ?_ ?_
  · skip
    exact KX_some jw_rf
  · skip
    refine KX_rd (fun _ => ?_)
    refine KX_if ?_ ?_
    · skip
      refine KX_wr ?_
      refine KX_wr ?_
      refine KX_wr ?_
      refine KX_wr ?_
      refine KX_pu ?_
      exact (kx_B_eight_101 h_R_9).tr (fx_sI (by decide) (fx_sA (by decide) (fx_sA (by decide) (fx_sB (fx_sB jw_rf)))))
    · skip
      refine KX_rd (fun _ => ?_)
      exact (kx_B_eight_101 h_R_9).tr jw_rf
theorem kx_LP_eight_9 {N : Nat}  (n : Nat) : ∀ a : Int64 × Int32 × RSt, KX (LP_eight_9 N n a) a.2.2 := by
  induction n with
  | zero => exact fun a r z e => by have e : (none : Option _) = some (r, z) := e; cases e
  | succ n ih =>
    intro a
    show KX (B_eight_9 N (LP_eight_9 N n) a.1 a.2.1 a.2.2) a.2.2
    exact kx_B_eight_9 ih
theorem kx_B_eight_0 {N : Nat} {u : RSt}  : KX (B_eight_0 N u) u := by
  unfold B_eight_0
  refine KX_pu ?_
  exact (kx_LP_eight_9  _ _).tr (fx_sI (by decide) jw_rf)
theorem kx_F_eight {N : Nat} {u : RSt}  : KX (F_eight N u) u := by
  unfold F_eight
  exact kx_B_eight_0.tr jw_rf
