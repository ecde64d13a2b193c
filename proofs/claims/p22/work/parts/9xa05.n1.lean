/-! What Items (but bodies) leave of the code: the class. -/
def kcq (u w : CSt) : Prop := (∀ p k, k ∈ [13, 14] → pI w p k = pI u p k) ∧ (∀ p k, k ∈ [11, 12, 13] → pA w p k = pA u p k) ∧ w.2.2.2.2.2.2.1 = u.2.2.2.2.2.2.1 ∧ w.2.2.2.2.2.2.2.1 = u.2.2.2.2.2.2.2.1 ∧ cA w 233 = cA u 233 ∧ cI w 14 = cI u 14 ∧ cI w 15 = cI u 15
def KXq {β : Type} (x : Option (β × CSt)) (u : CSt) : Prop := ∀ r w, x = some (r, w) → kcq u w
section KXqs
variable {α β γ : Type} {u v w : CSt}
theorem kcq_rf : kcq u u := ⟨fun _ _ _ => rfl, fun _ _ _ => rfl, rfl, rfl, rfl, rfl, rfl⟩
theorem kcq_tr (h : kcq u v) (h2 : kcq v w) : kcq u w := ⟨fun p k hk => (h2.1 p k hk).trans (h.1 p k hk), fun p k hk => (h2.2.1 p k hk).trans (h.2.1 p k hk), h2.2.2.1.trans h.2.2.1, h2.2.2.2.1.trans h.2.2.2.1, h2.2.2.2.2.1.trans h.2.2.2.2.1, h2.2.2.2.2.2.1.trans h.2.2.2.2.2.1, h2.2.2.2.2.2.2.trans h.2.2.2.2.2.2⟩
theorem KXq.tr {x : Option (β × CSt)} (hx : KXq x w) (h : kcq u w) : KXq x u := fun r z e => kcq_tr h (hx r z e)
theorem KXq.p {x : Option (β × CSt)} (hx : KXq x u) : pq x (fun _ w => kcq u w) := hx
theorem fcx_xI {k : Nat} {a : Int32} (hk : k ≠ 14 ∧ k ≠ 15) (h : kcq u w) : kcq u (xI w k a) := by
  refine kcq_tr h ⟨fun _ _ _ => rfl, fun _ _ _ => rfl, rfl, rfl, rfl, ?_, ?_⟩
  · show (if 14 = k then a else cI w 14) = _
    rw [if_neg (fun q => hk.1 q.symm)]
  · show (if 15 = k then a else cI w 15) = _
    rw [if_neg (fun q => hk.2 q.symm)]
theorem fcx_xL {k : Nat} {a : Int64} (h : kcq u w) : kcq u (xL w k a) := h
theorem fcx_xA {k i : Nat} {a : Int32} (hk : k ≠ 233) (h : kcq u w) : kcq u (xA w k i a) := by
  refine kcq_tr h ⟨fun _ _ _ => rfl, fun _ _ _ => rfl, rfl, rfl, ?_, rfl, rfl⟩
  show (if 233 = k then upd (cA w k) i a else cA w 233) = _
  rw [if_neg (fun q => hk q.symm)]
theorem fcx_xB {k i : Nat} {a : Int64} (h : kcq u w) : kcq u (xB w k i a) := h
theorem fcx_xpI {q k : Nat} {a : Int32} (hk : k ∉ [13, 14]) (h : kcq u w) : kcq u (xpI w q k a) := by
  refine kcq_tr h ⟨fun p j hj => ?_, fun _ _ _ => rfl, rfl, rfl, rfl, rfl, rfl⟩
  show (if p = q then (if j = k then a else pI w p j) else pI w p j) = _
  rw [if_neg (fun z : j = k => hk (z ▸ hj)), ite_self]
theorem fcx_xpA {q k i : Nat} {a : Int32} (hk : k ∉ [11, 12, 13]) (h : kcq u w) : kcq u (xpA w q k i a) := by
  refine kcq_tr h ⟨fun _ _ _ => rfl, fun p j hj => ?_, rfl, rfl, rfl, rfl, rfl⟩
  show (if p = q then (if j = k then upd (pA w p j) i a else pA w p j) else pA w p j) = _
  rw [if_neg (fun z : j = k => hk (z ▸ hj)), ite_self]
theorem fcx_xmI {m k : Nat} {a : Int32} (h : kcq u w) : kcq u (xmI w m k a) := h
theorem fcx_xmL {m k : Nat} {a : Int64} (h : kcq u w) : kcq u (xmL w m k a) := h
theorem KXq_some {r : β} (h : kcq u w) : KXq (some (r, w)) u := fun _ _ e => by cases e; exact h
theorem KXq_none : KXq (none : Option (β × CSt)) u := fun _ _ e => nomatch e
theorem KXq_rd {f : Nat → α} {n : Nat} {i : Int32} {k : α → Option (β × CSt)} (h : ∀ a, KXq (k a) u) : KXq (rd f n i k) u := by
  intro r z e
  have q : wq (rd f n i k) (fun r' z' => r' = r ∧ z' = z) := ⟨r, z, e, rfl, rfl⟩
  obtain ⟨r1, z1, e1, rfl, rfl⟩ := (wq_rd.mp q).2
  exact h _ _ _ e1
theorem KXq_if {c : Prop} {d : Decidable c} {a b : Option (β × CSt)} (ha : KXq a u) (hb : KXq b u) : KXq (if c then a else b) u := by
  by_cases q : c
  · rw [if_pos q]; exact ha
  · rw [if_neg q]; exact hb
theorem KXq_zr {v : Int32} {x : Option (β × CSt)} (h : KXq x u) : KXq (zr v x) u := fun r z e => h r z (zr_of e).2
theorem KXq_nz {v : Int32} {x : Option (β × CSt)} (h : KXq x u) : KXq (nz v x) u := fun r z e => h r z (nz_of e).2
theorem KXq_ok {P : Prop} {d : Decidable P} {x : Option (β × CSt)} (h : KXq x u) : KXq (ok P d x) u := fun r z e => h r z (ok_of e).2
theorem KXq_pc {x : CSt} {k : CSt → Option (β × CSt)} (h : KXq (k x) u) : KXq (pc x k) u := h
theorem KXq_wc {n : Nat} {i : Int32} {x : CSt} {k : CSt → Option (β × CSt)} (h : KXq (k x) u) : KXq (wc n i x k) u := by
  intro r z e
  have q : wq (wc n i x k) (fun r' z' => r' = r ∧ z' = z) := ⟨r, z, e, rfl, rfl⟩
  obtain ⟨r1, z1, e1, rfl, rfl⟩ := (wq_wc.mp q).2
  exact h _ _ e1
theorem KXq_bc {x : Option (α × CSt)} {k : α → CSt → Option (β × CSt)} (hx : KXq x u) (h : ∀ r w, KXq (k r w) w) : KXq (bc x k) u := by
  intro r z e
  have q : wq (bc x k) (fun r' z' => r' = r ∧ z' = z) := ⟨r, z, e, rfl, rfl⟩
  obtain ⟨r1, z1, e1, r2, z2, e2, rfl, rfl⟩ := wq_bc.mp q
  exact kcq_tr (hx _ _ e1) (h _ _ _ _ e2)
theorem KXq_pb {x : Option α} {k : α → Option (β × CSt)} (h : ∀ a, KXq (k a) u) : KXq (pb x k) u := by
  intro r z e
  have q : wq (pb x k) (fun r' z' => r' = r ∧ z' = z) := ⟨r, z, e, rfl, rfl⟩
  obtain ⟨a, -, r1, z1, e1, rfl, rfl⟩ := wq_pb.mp q
  exact h _ _ _ e1
theorem KXq_bt {x : Option (Sum Nat α × CSt)} {k : α → CSt → Option (Sum Nat γ × CSt)} (hx : KXq x u) (h : ∀ r w, KXq (k r w) w) : KXq (bt x k) u := by
  intro r z e
  unfold bt at e
  cases hq : x with
  | none => rw [hq] at e; cases e
  | some a =>
    obtain ⟨y, v⟩ := a
    rw [hq] at e
    cases y with
    | inl n => cases e; exact hx _ _ hq
    | inr b => exact kcq_tr (hx _ _ hq) (h _ _ _ _ e)
theorem KXq_ix {n : Nat} {i : Int32} {x : Option (β × CSt)} (h : KXq x u) : KXq (ix n i x) u := by
  intro r z e
  have q : wq (ix n i x) (fun r' z' => r' = r ∧ z' = z) := ⟨r, z, e, rfl, rfl⟩
  obtain ⟨r1, z1, e1, rfl, rfl⟩ := (wq_ix.mp q).2
  exact h _ _ e1
theorem KXq_bh {x : Option (Sum Nat α × CSt)} {kc : CSt → Option (β × CSt)} {k : α → CSt → Option (β × CSt)} (hx : KXq x u) (h0 : ∀ w, KXq (kc w) w) (h : ∀ r w, KXq (k r w) w) : KXq (bh x kc k) u := by
  intro r z e
  obtain ⟨y1, w1, e1, ⟨-, e2⟩ | ⟨q, -, e2⟩⟩ := bh_of e
  · exact kcq_tr (hx _ _ e1) (h0 _ _ _ e2)
  · exact kcq_tr (hx _ _ e1) (h _ _ _ _ e2)
end KXqs

theorem ncx_B_X4_become_0 {N : Nat} {l0 : Nat} {l1 : Int32} {l2 : Int64} {l4 : Int32} {u : CSt}  : KXq (B_X4_become_0 N l0 l1 l2 l4 u) u := by
  unfold B_X4_become_0
  refine KXq_pc ?_
  refine KXq_pc ?_
  refine KXq_pc ?_
  refine KXq_pc ?_
  refine KXq_pc ?_
  refine KXq_pc ?_
  refine KXq_pc ?_
  refine KXq_pc ?_
  refine KXq_pc ?_
  refine KXq_pc ?_
  refine KXq_pc ?_
  refine KXq_pc ?_
  refine KXq_pc ?_
  refine KXq_pc ?_
  exact KXq_some (fcx_xmI (fcx_xmI (fcx_xmI (fcx_xmI (fcx_xmL (fcx_xmI (fcx_xmI (fcx_xmI (fcx_xmI (fcx_xmI (fcx_xmI (fcx_xmI (fcx_xmI (fcx_xmL kcq_rf))))))))))))))
theorem ncx_F_X4_become {N : Nat} {l0 : Nat} {l1 : Int32} {l2 : Int64} {l4 : Int32} {u : CSt}  : KXq (F_X4_become N l0 l1 l2 l4 u) u := by
  unfold F_X4_become
  exact ncx_B_X4_become_0.tr kcq_rf
theorem ncx_B_X6_name_0 {N : Nat} {l0 : Nat} {l1 : Int32} {u : CSt}  : KXq (B_X6_name_0 N l0 l1 u) u := by
  unfold B_X6_name_0
  refine KXq_if ?_ ?_
  · skip
    exact KXq_some kcq_rf
  · skip
    refine KXq_if ?_ ?_
    · skip
      exact KXq_some kcq_rf
    · skip
      refine KXq_ix ?_
      exact KXq_some kcq_rf
theorem ncx_F_X6_name {N : Nat} {l0 : Nat} {l1 : Int32} {u : CSt}  : KXq (F_X6_name N l0 l1 u) u := by
  unfold F_X6_name
  exact ncx_B_X6_name_0.tr kcq_rf
theorem ncx_B_X6_local_0 {N : Nat} {l0 : Nat} {l1 : Nat} {l2 : Int32} {u : CSt}  : KXq (B_X6_local_0 N l0 l1 l2 u) u := by
  unfold B_X6_local_0
  refine KXq_if ?_ ?_
  · skip
    exact KXq_some kcq_rf
  · skip
    refine KXq_if ?_ ?_
    · skip
      exact KXq_some kcq_rf
    · skip
      refine KXq_bc (ncx_F_X6_name.tr kcq_rf) (fun _ _ => ?_)
      refine KXq_ok ?_
      exact KXq_some kcq_rf
theorem ncx_F_X6_local {N : Nat} {l0 : Nat} {l1 : Nat} {l2 : Int32} {u : CSt}  : KXq (F_X6_local N l0 l1 l2 u) u := by
  unfold F_X6_local
  exact ncx_B_X6_local_0.tr kcq_rf
theorem ncx_B_X6_localCalled_71 {N : Nat} {R_12 : Nat × Nat × Int64 × Int32 × Int32 × Int32 × CSt → Option (Nat × CSt)} {l0 : Nat} {l1 : Nat} {l2 : Int64} {l4 : Int32} {l5 : Int32} {l6 : Int32} {u : CSt} (h_R_12 : ∀ a, KXq (R_12 a) a.2.2.2.2.2.2) : KXq (B_X6_localCalled_71 N R_12 l0 l1 l2 l4 l5 l6 u) u := by
  unfold B_X6_localCalled_71
  exact (h_R_12 _).tr kcq_rf
theorem ncx_B_X6_localCalled_12 {N : Nat} {R_12 : Nat × Nat × Int64 × Int32 × Int32 × Int32 × CSt → Option (Nat × CSt)} {l0 : Nat} {l1 : Nat} {l2 : Int64} {l4 : Int32} {l5 : Int32} {l6 : Int32} {u : CSt} (h_R_12 : ∀ a, KXq (R_12 a) a.2.2.2.2.2.2) : KXq (B_X6_localCalled_12 N R_12 l0 l1 l2 l4 l5 l6 u) u := by
  unfold B_X6_localCalled_12
  refine KXq_if ?_ ?_
  · skip
    exact KXq_some kcq_rf
  · skip
    refine KXq_if ?_ ?_
    · skip
      exact KXq_some kcq_rf
    · skip
      refine KXq_ix ?_
      refine KXq_if ?_ ?_
      · skip
        refine KXq_ix ?_
        refine KXq_if ?_ ?_
        · skip
          refine KXq_ix ?_
          exact KXq_some kcq_rf
        · skip
          exact (ncx_B_X6_localCalled_71 h_R_12).tr kcq_rf
      · skip
        exact (ncx_B_X6_localCalled_71 h_R_12).tr kcq_rf
theorem ncx_LP_X6_localCalled_12 {N : Nat}  (n : Nat) : ∀ a : Nat × Nat × Int64 × Int32 × Int32 × Int32 × CSt, KXq (LP_X6_localCalled_12 N n a) a.2.2.2.2.2.2 := by
  induction n with
  | zero => exact fun a r z e => by have e : (none : Option _) = some (r, z) := e; cases e
  | succ n ih =>
    intro a
    show KXq (B_X6_localCalled_12 N (LP_X6_localCalled_12 N n) a.1 a.2.1 a.2.2.1 a.2.2.2.1 a.2.2.2.2.1 a.2.2.2.2.2.1 a.2.2.2.2.2.2) a.2.2.2.2.2.2
    exact ncx_B_X6_localCalled_12 ih
theorem ncx_B_X6_localCalled_0 {N : Nat} {l0 : Nat} {l1 : Nat} {l2 : Int64} {l4 : Int32} {u : CSt}  : KXq (B_X6_localCalled_0 N l0 l1 l2 l4 u) u := by
  unfold B_X6_localCalled_0
  exact (ncx_LP_X6_localCalled_12  _ _).tr kcq_rf
theorem ncx_F_X6_localCalled {N : Nat} {l0 : Nat} {l1 : Nat} {l2 : Int64} {l4 : Int32} {u : CSt}  : KXq (F_X6_localCalled N l0 l1 l2 l4 u) u := by
  unfold F_X6_localCalled
  exact ncx_B_X6_localCalled_0.tr kcq_rf
theorem ncx_B_X6_ofText_52 {N : Nat} {R_3 : Nat × Int64 × Int32 × Int32 × CSt → Option (Nat × CSt)} {l0 : Nat} {l1 : Int64} {l3 : Int32} {l4 : Int32} {u : CSt} (h_R_3 : ∀ a, KXq (R_3 a) a.2.2.2.2) : KXq (B_X6_ofText_52 N R_3 l0 l1 l3 l4 u) u := by
  unfold B_X6_ofText_52
  exact (h_R_3 _).tr kcq_rf
theorem ncx_B_X6_ofText_61 {N : Nat} {R_61 : Nat × Int64 × Int32 × Int32 × CSt → Option (Nat × CSt)} {l0 : Nat} {l1 : Int64} {l3 : Int32} {l4 : Int32} {u : CSt} (h_R_61 : ∀ a, KXq (R_61 a) a.2.2.2.2) : KXq (B_X6_ofText_61 N R_61 l0 l1 l3 l4 u) u := by
  unfold B_X6_ofText_61
  refine KXq_if ?_ ?_
  · skip
    exact KXq_some kcq_rf
  · skip
    refine KXq_if ?_ ?_
    · skip
      refine KXq_ix ?_
      refine KXq_if ?_ ?_
      · skip
        refine KXq_ix ?_
        exact KXq_some kcq_rf
      · skip
        exact (h_R_61 _).tr kcq_rf
    · skip
      exact KXq_some kcq_rf
theorem ncx_LP_X6_ofText_61 {N : Nat}  (n : Nat) : ∀ a : Nat × Int64 × Int32 × Int32 × CSt, KXq (LP_X6_ofText_61 N n a) a.2.2.2.2 := by
  induction n with
  | zero => exact fun a r z e => by have e : (none : Option _) = some (r, z) := e; cases e
  | succ n ih =>
    intro a
    show KXq (B_X6_ofText_61 N (LP_X6_ofText_61 N n) a.1 a.2.1 a.2.2.1 a.2.2.2.1 a.2.2.2.2) a.2.2.2.2
    exact ncx_B_X6_ofText_61 ih
theorem ncx_B_X6_ofText_3 {N : Nat} {R_3 : Nat × Int64 × Int32 × Int32 × CSt → Option (Nat × CSt)} {l0 : Nat} {l1 : Int64} {l3 : Int32} {l4 : Int32} {u : CSt} (h_R_3 : ∀ a, KXq (R_3 a) a.2.2.2.2) : KXq (B_X6_ofText_3 N R_3 l0 l1 l3 l4 u) u := by
  unfold B_X6_ofText_3
  refine KXq_if ?_ ?_
  · skip
    exact (ncx_LP_X6_ofText_61  _ _).tr kcq_rf
  · skip
    refine KXq_ix ?_
    refine KXq_if ?_ ?_
    · skip
      refine KXq_if ?_ ?_
      · skip
        refine KXq_if ?_ ?_
        · skip
          exact (ncx_B_X6_ofText_52 h_R_3).tr kcq_rf
        · skip
          exact KXq_some kcq_rf
      · skip
        exact (ncx_B_X6_ofText_52 h_R_3).tr kcq_rf
    · skip
      exact (ncx_B_X6_ofText_52 h_R_3).tr kcq_rf
theorem ncx_LP_X6_ofText_3 {N : Nat}  (n : Nat) : ∀ a : Nat × Int64 × Int32 × Int32 × CSt, KXq (LP_X6_ofText_3 N n a) a.2.2.2.2 := by
  induction n with
  | zero => exact fun a r z e => by have e : (none : Option _) = some (r, z) := e; cases e
  | succ n ih =>
    intro a
    show KXq (B_X6_ofText_3 N (LP_X6_ofText_3 N n) a.1 a.2.1 a.2.2.1 a.2.2.2.1 a.2.2.2.2) a.2.2.2.2
    exact ncx_B_X6_ofText_3 ih
theorem ncx_B_X6_ofText_0 {N : Nat} {l0 : Nat} {l1 : Int64} {l3 : Int32} {u : CSt}  : KXq (B_X6_ofText_0 N l0 l1 l3 u) u := by
  unfold B_X6_ofText_0
  exact (ncx_LP_X6_ofText_3  _ _).tr kcq_rf
theorem ncx_F_X6_ofText {N : Nat} {l0 : Nat} {l1 : Int64} {l3 : Int32} {u : CSt}  : KXq (F_X6_ofText N l0 l1 l3 u) u := by
  unfold F_X6_ofText
  exact ncx_B_X6_ofText_0.tr kcq_rf
theorem ncx_B_X6_add_86 {N : Nat} {l0 : Nat} {l5 : Nat} {u : CSt}  : KXq (B_X6_add_86 N l0 l5 u) u := by
  unfold B_X6_add_86
  refine KXq_pc ?_
  exact KXq_some (fcx_xpI (by decide) kcq_rf)
theorem ncx_B_X6_add_0 {N : Nat} {l0 : Nat} {l1 : Int32} {l2 : Int64} {l4 : Int32} {u : CSt} : KXq (B_X6_add_0 N l0 l1 l2 l4 u) u := by
  unfold B_X6_add_0
  refine KXq_if ?_ (KXq_some kcq_rf)
  refine KXq_ix (KXq_bc ncx_F_X4_become (fun _ w => KXq_pc ?_))
  by_cases c : (4 : Int32) < l1
  · rw [if_pos c]
    exact ncx_B_X6_add_86.tr (fcx_xmI kcq_rf)
  · rw [if_neg c]
    have hk : 4 + l1.toNatClampNeg ∉ [11, 12, 13] := by
      have e4 : (4 : Int32).toInt = 4 := by decide
      have h1 : ¬ (4 : Int32).toInt < l1.toInt := fun z => c (Int32.lt_iff_toInt_lt.mpr z)
      have hn : l1.toNatClampNeg = l1.toInt.toNat := rfl
      intro z
      simp only [List.mem_cons, List.not_mem_nil, or_false] at z
      omega
    exact KXq_rd (fun _ => KXq_pc (KXq_ix (KXq_wc (KXq_rd (fun _ => KXq_wc (ncx_B_X6_add_86.tr (fcx_xpA (by decide) (fcx_xpA hk (fcx_xmI (fcx_xmI kcq_rf))))))))))
theorem ncx_F_X6_add {N : Nat} {l0 : Nat} {l1 : Int32} {l2 : Int64} {l4 : Int32} {u : CSt}  : KXq (F_X6_add N l0 l1 l2 l4 u) u := by
  unfold F_X6_add
  exact ncx_B_X6_add_0.tr kcq_rf
theorem ncx_B_X9_is_0 {N : Nat} {l1 : Int32} {u : CSt}  : KXq (B_X9_is_0 N l1 u) u := by
  unfold B_X9_is_0
  refine KXq_rd (fun _ => ?_)
  refine KXq_if ?_ ?_
  · skip
    exact KXq_some kcq_rf
  · skip
    exact KXq_some kcq_rf
theorem ncx_F_X9_is {N : Nat} {l1 : Int32} {u : CSt}  : KXq (F_X9_is N l1 u) u := by
  unfold F_X9_is
  exact ncx_B_X9_is_0.tr kcq_rf
theorem ncx_B_X9_here_0 {N : Nat} {u : CSt}  : KXq (B_X9_here_0 N u) u := by
  unfold B_X9_here_0
  refine KXq_rd (fun _ => ?_)
  exact KXq_some kcq_rf
theorem ncx_F_X9_here {N : Nat} {u : CSt}  : KXq (F_X9_here N u) u := by
  unfold F_X9_here
  exact ncx_B_X9_here_0.tr kcq_rf
theorem ncx_B_X9_head_0 {N : Nat} {u : CSt}  : KXq (B_X9_head_0 N u) u := by
  unfold B_X9_head_0
  refine KXq_rd (fun _ => ?_)
  exact KXq_some kcq_rf
theorem ncx_F_X9_head {N : Nat} {u : CSt}  : KXq (F_X9_head N u) u := by
  unfold F_X9_head
  exact ncx_B_X9_head_0.tr kcq_rf
theorem ncx_B_X9_tail_0 {N : Nat} {u : CSt}  : KXq (B_X9_tail_0 N u) u := by
  unfold B_X9_tail_0
  refine KXq_rd (fun _ => ?_)
  exact KXq_some kcq_rf
theorem ncx_F_X9_tail {N : Nat} {u : CSt}  : KXq (F_X9_tail N u) u := by
  unfold F_X9_tail
  exact ncx_B_X9_tail_0.tr kcq_rf
theorem ncx_B_X9_isWide_0 {N : Nat} {u : CSt}  : KXq (B_X9_isWide_0 N u) u := by
  unfold B_X9_isWide_0
  refine KXq_rd (fun _ => ?_)
  refine KXq_if ?_ ?_
  · skip
    exact KXq_some kcq_rf
  · skip
    exact KXq_some kcq_rf
theorem ncx_F_X9_isWide {N : Nat} {u : CSt}  : KXq (F_X9_isWide N u) u := by
  unfold F_X9_isWide
  exact ncx_B_X9_isWide_0.tr kcq_rf
theorem ncx_B_X9_next_0 {N : Nat} {u : CSt}  : KXq (B_X9_next_0 N u) u := by
  unfold B_X9_next_0
  refine KXq_if ?_ ?_
  · skip
    exact KXq_some kcq_rf
  · skip
    refine KXq_pc ?_
    exact KXq_some (fcx_xI (by decide) kcq_rf)
theorem ncx_F_X9_next {N : Nat} {u : CSt}  : KXq (F_X9_next N u) u := by
  unfold F_X9_next
  exact ncx_B_X9_next_0.tr kcq_rf
theorem ncx_B_X9_refuse_0 {N : Nat} {l1 : Int32} {l2 : Int32} {u : CSt}  : KXq (B_X9_refuse_0 N l1 l2 u) u := by
  unfold B_X9_refuse_0
  refine KXq_pc ?_
  refine KXq_pc ?_
  exact KXq_some (fcx_xI (by decide) (fcx_xI (by decide) kcq_rf))
theorem ncx_F_X9_refuse {N : Nat} {l1 : Int32} {l2 : Int32} {u : CSt}  : KXq (F_X9_refuse N l1 l2 u) u := by
  unfold F_X9_refuse
  exact ncx_B_X9_refuse_0.tr kcq_rf
theorem ncx_B_X9_takeNumber_28 {N : Nat} {u : CSt}  : KXq (B_X9_takeNumber_28 N u) u := by
  unfold B_X9_takeNumber_28
  refine KXq_rd (fun _ => ?_)
  refine KXq_bc (ncx_F_X9_next.tr kcq_rf) (fun _ _ => ?_)
  exact KXq_some kcq_rf
theorem ncx_B_X9_takeNumber_0 {N : Nat} {u : CSt}  : KXq (B_X9_takeNumber_0 N u) u := by
  unfold B_X9_takeNumber_0
  refine KXq_rd (fun _ => ?_)
  refine KXq_if ?_ ?_
  · skip
    exact ncx_B_X9_takeNumber_28.tr kcq_rf
  · skip
    refine KXq_rd (fun _ => ?_)
    refine KXq_bt (ncx_F_X9_refuse.tr kcq_rf) (fun _ _ => ?_)
    exact ncx_B_X9_takeNumber_28.tr kcq_rf
theorem ncx_F_X9_takeNumber {N : Nat} {u : CSt}  : KXq (F_X9_takeNumber N u) u := by
  unfold F_X9_takeNumber
  exact ncx_B_X9_takeNumber_0.tr kcq_rf
theorem ncx_B_X9_takeBounded_53 {N : Nat} {l5 : Int64} {u : CSt}  : KXq (B_X9_takeBounded_53 N l5 u) u := by
  unfold B_X9_takeBounded_53
  refine KXq_bc (ncx_F_X9_next.tr kcq_rf) (fun _ _ => ?_)
  exact KXq_some kcq_rf
theorem ncx_B_X9_takeBounded_39 {N : Nat} {l5 : Int64} {u : CSt}  : KXq (B_X9_takeBounded_39 N l5 u) u := by
  unfold B_X9_takeBounded_39
  refine KXq_rd (fun _ => ?_)
  refine KXq_bt (ncx_F_X9_refuse.tr kcq_rf) (fun _ _ => ?_)
  exact ncx_B_X9_takeBounded_53.tr kcq_rf
theorem ncx_B_X9_takeBounded_0 {N : Nat} {l1 : Int64} {l3 : Int64} {u : CSt}  : KXq (B_X9_takeBounded_0 N l1 l3 u) u := by
  unfold B_X9_takeBounded_0
  refine KXq_rd (fun _ => ?_)
  refine KXq_rd (fun _ => ?_)
  refine KXq_if ?_ ?_
  · skip
    refine KXq_if ?_ ?_
    · skip
      exact ncx_B_X9_takeBounded_39.tr kcq_rf
    · skip
      refine KXq_if ?_ ?_
      · skip
        exact ncx_B_X9_takeBounded_53.tr kcq_rf
      · skip
        exact ncx_B_X9_takeBounded_39.tr kcq_rf
  · skip
    exact ncx_B_X9_takeBounded_39.tr kcq_rf
theorem ncx_F_X9_takeBounded {N : Nat} {l1 : Int64} {l3 : Int64} {u : CSt}  : KXq (F_X9_takeBounded N l1 l3 u) u := by
  unfold F_X9_takeBounded
  exact ncx_B_X9_takeBounded_0.tr kcq_rf
theorem ncx_B_X9_takeKind_0 {N : Nat} {u : CSt}  : KXq (B_X9_takeKind_0 N u) u := by
  unfold B_X9_takeKind_0
  refine KXq_rd (fun _ => ?_)
  refine KXq_bc (ncx_F_X9_next.tr kcq_rf) (fun _ _ => ?_)
  exact KXq_some kcq_rf
theorem ncx_F_X9_takeKind {N : Nat} {u : CSt}  : KXq (F_X9_takeKind N u) u := by
  unfold F_X9_takeKind
  exact ncx_B_X9_takeKind_0.tr kcq_rf
theorem ncx_B_X6_hasRoomFor_58 {N : Nat} {u : CSt}  : KXq (B_X6_hasRoomFor_58 N u) u := by
  unfold B_X6_hasRoomFor_58
  exact KXq_some kcq_rf
theorem ncx_B_X6_hasRoomFor_0 {N : Nat} {l0 : Nat} {l1 : Int32} {u : CSt}  : KXq (B_X6_hasRoomFor_0 N l0 l1 u) u := by
  unfold B_X6_hasRoomFor_0
  refine KXq_if ?_ ?_
  · skip
    refine KXq_if ?_ ?_
    · skip
      refine KXq_bc (ncx_F_X6_name.tr kcq_rf) (fun _ _ => ?_)
      refine KXq_ok ?_
      refine KXq_if ?_ ?_
      · skip
        exact KXq_some kcq_rf
      · skip
        exact KXq_some kcq_rf
    · skip
      refine KXq_if ?_ ?_
      · skip
        exact ncx_B_X6_hasRoomFor_58.tr kcq_rf
      · skip
        refine KXq_rd (fun _ => ?_)
        refine KXq_rd (fun _ => ?_)
        refine KXq_if ?_ ?_
        · skip
          exact KXq_some kcq_rf
        · skip
          exact ncx_B_X6_hasRoomFor_58.tr kcq_rf
  · skip
    exact KXq_some kcq_rf
theorem ncx_F_X6_hasRoomFor {N : Nat} {l0 : Nat} {l1 : Int32} {u : CSt}  : KXq (F_X6_hasRoomFor N l0 l1 u) u := by
  unfold F_X6_hasRoomFor
  exact ncx_B_X6_hasRoomFor_0.tr kcq_rf
theorem ncx_B_X8_known_0 {N : Nat} {u : CSt}  : KXq (B_X8_known_0 N u) u := by
  unfold B_X8_known_0
  refine KXq_bc (ncx_F_X9_head.tr kcq_rf) (fun _ _ => ?_)
  refine KXq_bc (ncx_F_X9_tail.tr kcq_rf) (fun _ _ => ?_)
  refine KXq_ok ?_
  refine KXq_bc (ncx_F_X6_name.tr kcq_rf) (fun _ _ => ?_)
  refine KXq_ok ?_
  refine KXq_bc (ncx_F_X6_localCalled.tr kcq_rf) (fun _ _ => ?_)
  refine KXq_ok ?_
  refine KXq_if ?_ ?_
  · skip
    refine KXq_ok ?_
    refine KXq_bc (ncx_F_X6_ofText.tr kcq_rf) (fun _ _ => ?_)
    refine KXq_ok ?_
    exact KXq_some kcq_rf
  · skip
    exact KXq_some kcq_rf
theorem ncx_F_X8_known {N : Nat} {u : CSt}  : KXq (F_X8_known N u) u := by
  unfold F_X8_known
  exact ncx_B_X8_known_0.tr kcq_rf
theorem ncx_B_X3_newName_108 {N : Nat} {l1 : Int32} {l3 : Int64} {l5 : Int32} {u : CSt}  : KXq (B_X3_newName_108 N l1 l3 l5 u) u := by
  unfold B_X3_newName_108
  refine KXq_bc (ncx_F_X9_next.tr kcq_rf) (fun _ _ => ?_)
  refine KXq_ok ?_
  refine KXq_bc (ncx_F_X6_add.tr kcq_rf) (fun _ _ => ?_)
  refine KXq_ok ?_
  exact KXq_some kcq_rf
theorem ncx_B_X3_newName_88 {N : Nat} {l1 : Int32} {l2 : Int32} {l3 : Int64} {l5 : Int32} {u : CSt}  : KXq (B_X3_newName_88 N l1 l2 l3 l5 u) u := by
  unfold B_X3_newName_88
  refine KXq_ok ?_
  refine KXq_bc (ncx_F_X6_hasRoomFor.tr kcq_rf) (fun _ _ => ?_)
  refine KXq_if ?_ ?_
  · skip
    refine KXq_bt (ncx_F_X9_refuse.tr kcq_rf) (fun _ _ => ?_)
    exact ncx_B_X3_newName_108.tr kcq_rf
  · skip
    exact ncx_B_X3_newName_108.tr kcq_rf
theorem ncx_B_X3_newName_67 {N : Nat} {l1 : Int32} {l2 : Int32} {l3 : Int64} {l5 : Int32} {s0 : Nat} {u : CSt}  : KXq (B_X3_newName_67 N l1 l2 l3 l5 s0 u) u := by
  unfold B_X3_newName_67
  refine KXq_if ?_ ?_
  · skip
    exact ncx_B_X3_newName_88.tr kcq_rf
  · skip
    refine KXq_bt (ncx_F_X9_refuse.tr kcq_rf) (fun _ _ => ?_)
    exact ncx_B_X3_newName_88.tr kcq_rf
theorem ncx_B_X3_newName_0 {N : Nat} {l1 : Int32} {u : CSt}  : KXq (B_X3_newName_0 N l1 u) u := by
  unfold B_X3_newName_0
  refine KXq_bc (ncx_F_X9_here.tr kcq_rf) (fun _ _ => ?_)
  refine KXq_bc (ncx_F_X9_head.tr kcq_rf) (fun _ _ => ?_)
  refine KXq_bc (ncx_F_X9_tail.tr kcq_rf) (fun _ _ => ?_)
  refine KXq_if ?_ ?_
  · skip
    refine KXq_ok ?_
    refine KXq_bc (ncx_F_X6_name.tr kcq_rf) (fun _ _ => ?_)
    refine KXq_ok ?_
    refine KXq_bc (ncx_F_X6_localCalled.tr kcq_rf) (fun _ _ => ?_)
    refine KXq_ok ?_
    exact ncx_B_X3_newName_67.tr kcq_rf
  · skip
    refine KXq_ok ?_
    refine KXq_bc (ncx_F_X6_ofText.tr kcq_rf) (fun _ _ => ?_)
    refine KXq_ok ?_
    exact ncx_B_X3_newName_67.tr kcq_rf
theorem ncx_F_X3_newName {N : Nat} {l1 : Int32} {u : CSt}  : KXq (F_X3_newName N l1 u) u := by
  unfold F_X3_newName
  exact ncx_B_X3_newName_0.tr kcq_rf
theorem ncx_B_X3_allot_0 {N : Nat} {l1 : Int32} {l2 : Int32} {l3 : Int32} {u : CSt}  : KXq (B_X3_allot_0 N l1 l2 l3 u) u := by
  unfold B_X3_allot_0
  refine KXq_rd (fun _ => ?_)
  refine KXq_wc ?_
  refine KXq_pc ?_
  refine KXq_rd (fun _ => ?_)
  refine KXq_if ?_ ?_
  · skip
    exact KXq_some (fcx_xI (by decide) (fcx_xA (by decide) kcq_rf))
  · skip
    refine KXq_bt (ncx_F_X9_refuse.tr (fcx_xI (by decide) (fcx_xA (by decide) kcq_rf))) (fun _ _ => ?_)
    exact KXq_some kcq_rf
theorem ncx_F_X3_allot {N : Nat} {l1 : Int32} {l2 : Int32} {l3 : Int32} {u : CSt}  : KXq (F_X3_allot N l1 l2 l3 u) u := by
  unfold F_X3_allot
  exact ncx_B_X3_allot_0.tr kcq_rf
theorem ncx_B_X3_join_64 {N : Nat} {l2 : Int32} {l3 : Nat} {s0 : Nat} {s1 : Int32} {s2 : Int32} {u : CSt}  : KXq (B_X3_join_64 N l2 l3 s0 s1 s2 u) u := by
  unfold B_X3_join_64
  refine KXq_pc ?_
  refine KXq_if ?_ ?_
  · skip
    exact KXq_some (fcx_xmI kcq_rf)
  · skip
    refine KXq_bt (ncx_F_X9_refuse.tr (fcx_xmI kcq_rf)) (fun _ _ => ?_)
    exact KXq_some kcq_rf
theorem ncx_B_X3_join_0 {N : Nat} {l1 : Nat} {l2 : Int32} {u : CSt}  : KXq (B_X3_join_0 N l1 l2 u) u := by
  unfold B_X3_join_0
  refine KXq_ok ?_
  refine KXq_bc (ncx_F_X6_name.tr kcq_rf) (fun _ _ => ?_)
  refine KXq_ok ?_
  refine KXq_pc ?_
  refine KXq_pc ?_
  refine KXq_pc ?_
  refine KXq_if ?_ ?_
  · skip
    exact ncx_B_X3_join_64.tr (fcx_xmI (fcx_xmI (fcx_xmI kcq_rf)))
  · skip
    exact ncx_B_X3_join_64.tr (fcx_xmI (fcx_xmI (fcx_xmI kcq_rf)))
theorem ncx_F_X3_join {N : Nat} {l1 : Nat} {l2 : Int32} {u : CSt}  : KXq (F_X3_join N l1 l2 u) u := by
  unfold F_X3_join
  exact ncx_B_X3_join_0.tr kcq_rf
theorem ncx_B_X3_constant_60 {N : Nat} {l1 : Int32} {l3 : Int32} {l5 : Int64} {u : CSt}  : KXq (B_X3_constant_60 N l1 l3 l5 u) u := by
  unfold B_X3_constant_60
  refine KXq_if ?_ ?_
  · skip
    refine KXq_bt (ncx_F_X9_refuse.tr kcq_rf) (fun _ _ => ?_)
    exact KXq_some kcq_rf
  · skip
    exact KXq_some kcq_rf
theorem ncx_B_X3_constant_21 {N : Nat} {l1 : Int32} {l2 : Int32} {u : CSt}  : KXq (B_X3_constant_21 N l1 l2 u) u := by
  unfold B_X3_constant_21
  refine KXq_bc (ncx_F_X9_here.tr kcq_rf) (fun _ _ => ?_)
  refine KXq_bc (ncx_F_X9_isWide.tr kcq_rf) (fun _ _ => ?_)
  refine KXq_bt (ncx_F_X9_takeNumber.tr kcq_rf) (fun _ _ => ?_)
  refine KXq_if ?_ ?_
  · skip
    exact ncx_B_X3_constant_60.tr kcq_rf
  · skip
    exact ncx_B_X3_constant_60.tr kcq_rf
theorem ncx_B_X3_constant_0 {N : Nat} {l1 : Int32} {u : CSt}  : KXq (B_X3_constant_0 N l1 u) u := by
  unfold B_X3_constant_0
  refine KXq_bc (ncx_F_X9_is.tr kcq_rf) (fun _ _ => ?_)
  refine KXq_if ?_ ?_
  · skip
    exact ncx_B_X3_constant_21.tr kcq_rf
  · skip
    refine KXq_bc (ncx_F_X9_next.tr kcq_rf) (fun _ _ => ?_)
    exact ncx_B_X3_constant_21.tr kcq_rf
theorem ncx_F_X3_constant {N : Nat} {l1 : Int32} {u : CSt}  : KXq (F_X3_constant N l1 u) u := by
  unfold F_X3_constant
  exact ncx_B_X3_constant_0.tr kcq_rf
theorem ncx_B_X3_oneVariable_112 {N : Nat} {l1 : Int32} {l3 : Int32} {l4 : Int32} {l5 : Nat} {u : CSt}  : KXq (B_X3_oneVariable_112 N l1 l3 l4 l5 u) u := by
  unfold B_X3_oneVariable_112
  refine KXq_if ?_ ?_
  · skip
    refine KXq_pc ?_
    refine KXq_bt (ncx_F_X3_allot.tr (fcx_xmI kcq_rf)) (fun _ _ => ?_)
    exact KXq_some kcq_rf
  · skip
    refine KXq_bt (ncx_F_X3_join.tr kcq_rf) (fun _ _ => ?_)
    exact KXq_some kcq_rf
theorem ncx_B_X3_oneVariable_83 {N : Nat} {l1 : Int32} {l3 : Int32} {l4 : Int32} {l5 : Nat} {u : CSt}  : KXq (B_X3_oneVariable_83 N l1 l3 l4 l5 u) u := by
  unfold B_X3_oneVariable_83
  refine KXq_bc (ncx_F_X9_is.tr kcq_rf) (fun _ _ => ?_)
  refine KXq_if ?_ ?_
  · skip
    exact ncx_B_X3_oneVariable_112.tr kcq_rf
  · skip
    refine KXq_bc (ncx_F_X9_next.tr kcq_rf) (fun _ _ => ?_)
    refine KXq_bt (ncx_F_X3_constant.tr kcq_rf) (fun _ _ => ?_)
    refine KXq_pc ?_
    exact ncx_B_X3_oneVariable_112.tr (fcx_xmL kcq_rf)
theorem ncx_B_X3_oneVariable_0 {N : Nat} {l1 : Int32} {l2 : Int32} {l3 : Int32} {u : CSt}  : KXq (B_X3_oneVariable_0 N l1 l2 l3 u) u := by
  unfold B_X3_oneVariable_0
  refine KXq_bc (ncx_F_X9_here.tr kcq_rf) (fun _ _ => ?_)
  refine KXq_bt (ncx_F_X3_newName.tr kcq_rf) (fun _ _ => ?_)
  refine KXq_ok ?_
  refine KXq_pc ?_
  refine KXq_pc ?_
  refine KXq_pc ?_
  refine KXq_bc (ncx_F_X9_is.tr (fcx_xmI (fcx_xmI (fcx_xmI kcq_rf)))) (fun _ _ => ?_)
  refine KXq_if ?_ ?_
  · skip
    exact ncx_B_X3_oneVariable_83.tr kcq_rf
  · skip
    refine KXq_bc (ncx_F_X9_next.tr kcq_rf) (fun _ _ => ?_)
    refine KXq_pc ?_
    refine KXq_bt (ncx_F_X9_takeBounded.tr (fcx_xmI kcq_rf)) (fun _ _ => ?_)
    refine KXq_pc ?_
    refine KXq_bc (ncx_F_X9_next.tr (fcx_xmI kcq_rf)) (fun _ _ => ?_)
    exact ncx_B_X3_oneVariable_83.tr kcq_rf
theorem ncx_F_X3_oneVariable {N : Nat} {l1 : Int32} {l2 : Int32} {l3 : Int32} {u : CSt}  : KXq (F_X3_oneVariable N l1 l2 l3 u) u := by
  unfold F_X3_oneVariable
  exact ncx_B_X3_oneVariable_0.tr kcq_rf
theorem ncx_B_X3_variables_58 {N : Nat} {u : CSt}  : KXq (B_X3_variables_58 N u) u := by
  unfold B_X3_variables_58
  refine KXq_bc (ncx_F_X9_next.tr kcq_rf) (fun _ _ => ?_)
  exact KXq_some kcq_rf
theorem ncx_B_X3_variables_18 {N : Nat} {R_18 : Int32 × Int32 × Int32 × Int32 × CSt → Option ((Sum Nat Int32) × CSt)} {l1 : Int32} {l2 : Int32} {l3 : Int32} {l4 : Int32} {u : CSt} (h_R_18 : ∀ a, KXq (R_18 a) a.2.2.2.2) : KXq (B_X3_variables_18 N R_18 l1 l2 l3 l4 u) u := by
  unfold B_X3_variables_18
  refine KXq_if ?_ ?_
  · skip
    exact ncx_B_X3_variables_58.tr kcq_rf
  · skip
    refine KXq_bc (ncx_F_X9_is.tr kcq_rf) (fun _ _ => ?_)
    refine KXq_if ?_ ?_
    · skip
      exact ncx_B_X3_variables_58.tr kcq_rf
    · skip
      refine KXq_bc (ncx_F_X9_next.tr kcq_rf) (fun _ _ => ?_)
      refine KXq_bt (ncx_F_X3_oneVariable.tr kcq_rf) (fun _ _ => ?_)
      exact (h_R_18 _).tr kcq_rf
theorem ncx_LP_X3_variables_18 {N : Nat}  (n : Nat) : ∀ a : Int32 × Int32 × Int32 × Int32 × CSt, KXq (LP_X3_variables_18 N n a) a.2.2.2.2 := by
  induction n with
  | zero => exact fun a r z e => by have e : (none : Option _) = some (r, z) := e; cases e
  | succ n ih =>
    intro a
    show KXq (B_X3_variables_18 N (LP_X3_variables_18 N n) a.1 a.2.1 a.2.2.1 a.2.2.2.1 a.2.2.2.2) a.2.2.2.2
    exact ncx_B_X3_variables_18 ih
theorem ncx_B_X3_variables_0 {N : Nat} {l1 : Int32} {l2 : Int32} {u : CSt}  : KXq (B_X3_variables_0 N l1 l2 u) u := by
  unfold B_X3_variables_0
  refine KXq_bc (ncx_F_X9_takeKind.tr kcq_rf) (fun _ _ => ?_)
  refine KXq_bt (ncx_F_X3_oneVariable.tr kcq_rf) (fun _ _ => ?_)
  exact (ncx_LP_X3_variables_18  _ _).tr kcq_rf
theorem ncx_F_X3_variables {N : Nat} {l1 : Int32} {l2 : Int32} {u : CSt}  : KXq (F_X3_variables N l1 l2 u) u := by
  unfold F_X3_variables
  exact ncx_B_X3_variables_0.tr kcq_rf
theorem ncx_B_X3_placed_0 {N : Nat} {l1 : Int32} {u : CSt}  : KXq (B_X3_placed_0 N l1 u) u := by
  unfold B_X3_placed_0
  refine KXq_bc (ncx_F_X9_takeKind.tr kcq_rf) (fun _ _ => ?_)
  refine KXq_bt (ncx_F_X3_newName.tr kcq_rf) (fun _ _ => ?_)
  refine KXq_ok ?_
  refine KXq_pc ?_
  refine KXq_pc ?_
  refine KXq_pc ?_
  refine KXq_bc (ncx_F_X9_next.tr (fcx_xmI (fcx_xmI (fcx_xmI kcq_rf)))) (fun _ _ => ?_)
  refine KXq_rd (fun _ => ?_)
  refine KXq_bt (ncx_F_X9_takeBounded.tr kcq_rf) (fun _ _ => ?_)
  refine KXq_pc ?_
  refine KXq_bc (ncx_F_X9_next.tr (fcx_xmI kcq_rf)) (fun _ _ => ?_)
  exact KXq_some kcq_rf
theorem ncx_F_X3_placed {N : Nat} {l1 : Int32} {u : CSt}  : KXq (F_X3_placed N l1 u) u := by
  unfold F_X3_placed
  exact ncx_B_X3_placed_0.tr kcq_rf
theorem ncx_B_X3_oneUse_33 {N : Nat} {R_33 : Nat × Int32 × Int32 × CSt → Option ((Sum Nat Int32) × CSt)} {l1 : Nat} {l2 : Int32} {l4 : Int32} {u : CSt} (h_R_33 : ∀ a, KXq (R_33 a) a.2.2.2) : KXq (B_X3_oneUse_33 N R_33 l1 l2 l4 u) u := by
  unfold B_X3_oneUse_33
  refine KXq_if ?_ ?_
  · skip
    exact KXq_some kcq_rf
  · skip
    refine KXq_ok ?_
    refine KXq_bc (ncx_F_X6_local.tr kcq_rf) (fun _ _ => ?_)
    refine KXq_ok ?_
    refine KXq_bt (ncx_F_X3_allot.tr kcq_rf) (fun _ _ => ?_)
    exact (h_R_33 _).tr kcq_rf
theorem ncx_LP_X3_oneUse_33 {N : Nat}  (n : Nat) : ∀ a : Nat × Int32 × Int32 × CSt, KXq (LP_X3_oneUse_33 N n a) a.2.2.2 := by
  induction n with
  | zero => exact fun a r z e => by have e : (none : Option _) = some (r, z) := e; cases e
  | succ n ih =>
    intro a
    show KXq (B_X3_oneUse_33 N (LP_X3_oneUse_33 N n) a.1 a.2.1 a.2.2.1 a.2.2.2) a.2.2.2
    exact ncx_B_X3_oneUse_33 ih
theorem ncx_B_X3_oneUse_0 {N : Nat} {l1 : Nat} {u : CSt}  : KXq (B_X3_oneUse_0 N l1 u) u := by
  unfold B_X3_oneUse_0
  refine KXq_bc (ncx_F_X9_here.tr kcq_rf) (fun _ _ => ?_)
  refine KXq_bt (ncx_F_X3_newName.tr kcq_rf) (fun _ _ => ?_)
  refine KXq_ok ?_
  refine KXq_pc ?_
  refine KXq_pc ?_
  exact (ncx_LP_X3_oneUse_33  _ _).tr (fcx_xmI (fcx_xmI kcq_rf))
theorem ncx_F_X3_oneUse {N : Nat} {l1 : Nat} {u : CSt}  : KXq (F_X3_oneUse N l1 u) u := by
  unfold F_X3_oneUse
  exact ncx_B_X3_oneUse_0.tr kcq_rf
theorem ncx_B_X3_uses_82 {N : Nat} {u : CSt}  : KXq (B_X3_uses_82 N u) u := by
  unfold B_X3_uses_82
  refine KXq_bc (ncx_F_X9_next.tr kcq_rf) (fun _ _ => ?_)
  exact KXq_some kcq_rf
theorem ncx_B_X3_uses_45 {N : Nat} {R_45 : Nat × Int32 × CSt → Option ((Sum Nat Int32) × CSt)} {l1 : Nat} {l2 : Int32} {u : CSt} (h_R_45 : ∀ a, KXq (R_45 a) a.2.2) : KXq (B_X3_uses_45 N R_45 l1 l2 u) u := by
  unfold B_X3_uses_45
  refine KXq_if ?_ ?_
  · skip
    exact ncx_B_X3_uses_82.tr kcq_rf
  · skip
    refine KXq_bc (ncx_F_X9_is.tr kcq_rf) (fun _ _ => ?_)
    refine KXq_if ?_ ?_
    · skip
      exact ncx_B_X3_uses_82.tr kcq_rf
    · skip
      refine KXq_bc (ncx_F_X9_next.tr kcq_rf) (fun _ _ => ?_)
      refine KXq_bt (ncx_F_X3_oneUse.tr kcq_rf) (fun _ _ => ?_)
      exact (h_R_45 _).tr kcq_rf
theorem ncx_LP_X3_uses_45 {N : Nat}  (n : Nat) : ∀ a : Nat × Int32 × CSt, KXq (LP_X3_uses_45 N n a) a.2.2 := by
  induction n with
  | zero => exact fun a r z e => by have e : (none : Option _) = some (r, z) := e; cases e
  | succ n ih =>
    intro a
    show KXq (B_X3_uses_45 N (LP_X3_uses_45 N n) a.1 a.2.1 a.2.2) a.2.2
    exact ncx_B_X3_uses_45 ih
theorem ncx_B_X3_uses_31 {N : Nat} {l1 : Nat} {u : CSt}  : KXq (B_X3_uses_31 N l1 u) u := by
  unfold B_X3_uses_31
  refine KXq_bc (ncx_F_X9_next.tr kcq_rf) (fun _ _ => ?_)
  refine KXq_bt (ncx_F_X3_oneUse.tr kcq_rf) (fun _ _ => ?_)
  exact (ncx_LP_X3_uses_45  _ _).tr kcq_rf
theorem ncx_B_X3_uses_0 {N : Nat} {u : CSt}  : KXq (B_X3_uses_0 N u) u := by
  unfold B_X3_uses_0
  refine KXq_bc (ncx_F_X8_known.tr kcq_rf) (fun _ _ => ?_)
  refine KXq_ok ?_
  refine KXq_if ?_ ?_
  · skip
    exact ncx_B_X3_uses_31.tr kcq_rf
  · skip
    refine KXq_bc (ncx_F_X9_here.tr kcq_rf) (fun _ _ => ?_)
    refine KXq_bt (ncx_F_X9_refuse.tr kcq_rf) (fun _ _ => ?_)
    exact ncx_B_X3_uses_31.tr kcq_rf
theorem ncx_F_X3_uses {N : Nat} {u : CSt}  : KXq (F_X3_uses N u) u := by
  unfold F_X3_uses
  exact ncx_B_X3_uses_0.tr kcq_rf
theorem ncx_B_X3_parameter_19 {N : Nat} {u : CSt}  : KXq (B_X3_parameter_19 N u) u := by
  unfold B_X3_parameter_19
  refine KXq_bc (ncx_F_X9_takeKind.tr kcq_rf) (fun _ _ => ?_)
  refine KXq_bc (ncx_F_X9_here.tr kcq_rf) (fun _ _ => ?_)
  refine KXq_bt (ncx_F_X3_newName.tr kcq_rf) (fun _ _ => ?_)
  refine KXq_ok ?_
  refine KXq_pc ?_
  refine KXq_pc ?_
  refine KXq_bt (ncx_F_X3_join.tr (fcx_xmI (fcx_xmI kcq_rf))) (fun _ _ => ?_)
  exact KXq_some kcq_rf
theorem ncx_B_X3_parameter_0 {N : Nat} {u : CSt}  : KXq (B_X3_parameter_0 N u) u := by
  unfold B_X3_parameter_0
  refine KXq_bc (ncx_F_X9_is.tr kcq_rf) (fun _ _ => ?_)
  refine KXq_if ?_ ?_
  · skip
    exact ncx_B_X3_parameter_19.tr kcq_rf
  · skip
    refine KXq_bc (ncx_F_X9_next.tr kcq_rf) (fun _ _ => ?_)
    exact ncx_B_X3_parameter_19.tr kcq_rf
theorem ncx_F_X3_parameter {N : Nat} {u : CSt}  : KXq (F_X3_parameter N u) u := by
  unfold F_X3_parameter
  exact ncx_B_X3_parameter_0.tr kcq_rf
/-! Small programs of the class change the place among the tokens and the FAULT alone. -/
def smf (u w : CSt) : Prop := (∀ k, k ∉ [5, 6, 7] → cI w k = cI u k) ∧ w.2 = u.2
def KSM {β : Type} (x : Option (β × CSt)) (u : CSt) : Prop := ∀ r w, x = some (r, w) → smf u w
section KSMs
variable {α β γ : Type} {u v w : CSt}
theorem smf_rf : smf u u := ⟨fun _ _ => rfl, rfl⟩
theorem smf_tr (h : smf u v) (h2 : smf v w) : smf u w := ⟨fun k hk => (h2.1 k hk).trans (h.1 k hk), h2.2.trans h.2⟩
theorem KSM.tr {x : Option (β × CSt)} (hx : KSM x w) (h : smf u w) : KSM x u := fun r z e => smf_tr h (hx r z e)
theorem KSM.p {x : Option (β × CSt)} (hx : KSM x u) : pq x (fun _ w => smf u w) := hx
theorem fsm_xI {k : Nat} {a : Int32} (hk : k ∈ [5, 6, 7]) (h : smf u w) : smf u (xI w k a) := by
  refine smf_tr h ⟨fun j hj => ?_, rfl⟩
  show (if j = k then a else cI w j) = _
  rw [if_neg (fun z : j = k => hj (z ▸ hk))]
theorem KSM_some {r : β} (h : smf u w) : KSM (some (r, w)) u := fun _ _ e => by cases e; exact h
theorem KSM_none : KSM (none : Option (β × CSt)) u := fun _ _ e => nomatch e
theorem KSM_rd {f : Nat → α} {n : Nat} {i : Int32} {k : α → Option (β × CSt)} (h : ∀ a, KSM (k a) u) : KSM (rd f n i k) u := by
  intro r z e
  have q : wq (rd f n i k) (fun r' z' => r' = r ∧ z' = z) := ⟨r, z, e, rfl, rfl⟩
  obtain ⟨r1, z1, e1, rfl, rfl⟩ := (wq_rd.mp q).2
  exact h _ _ _ e1
theorem KSM_if {c : Prop} {d : Decidable c} {a b : Option (β × CSt)} (ha : KSM a u) (hb : KSM b u) : KSM (if c then a else b) u := by
  by_cases q : c
  · rw [if_pos q]; exact ha
  · rw [if_neg q]; exact hb
theorem KSM_zr {v : Int32} {x : Option (β × CSt)} (h : KSM x u) : KSM (zr v x) u := fun r z e => h r z (zr_of e).2
theorem KSM_nz {v : Int32} {x : Option (β × CSt)} (h : KSM x u) : KSM (nz v x) u := fun r z e => h r z (nz_of e).2
theorem KSM_ok {P : Prop} {d : Decidable P} {x : Option (β × CSt)} (h : KSM x u) : KSM (ok P d x) u := fun r z e => h r z (ok_of e).2
theorem KSM_pc {x : CSt} {k : CSt → Option (β × CSt)} (h : KSM (k x) u) : KSM (pc x k) u := h
theorem KSM_wc {n : Nat} {i : Int32} {x : CSt} {k : CSt → Option (β × CSt)} (h : KSM (k x) u) : KSM (wc n i x k) u := by
  intro r z e
  have q : wq (wc n i x k) (fun r' z' => r' = r ∧ z' = z) := ⟨r, z, e, rfl, rfl⟩
  obtain ⟨r1, z1, e1, rfl, rfl⟩ := (wq_wc.mp q).2
  exact h _ _ e1
theorem KSM_bc {x : Option (α × CSt)} {k : α → CSt → Option (β × CSt)} (hx : KSM x u) (h : ∀ r w, KSM (k r w) w) : KSM (bc x k) u := by
  intro r z e
  have q : wq (bc x k) (fun r' z' => r' = r ∧ z' = z) := ⟨r, z, e, rfl, rfl⟩
  obtain ⟨r1, z1, e1, r2, z2, e2, rfl, rfl⟩ := wq_bc.mp q
  exact smf_tr (hx _ _ e1) (h _ _ _ _ e2)
theorem KSM_pb {x : Option α} {k : α → Option (β × CSt)} (h : ∀ a, KSM (k a) u) : KSM (pb x k) u := by
  intro r z e
  have q : wq (pb x k) (fun r' z' => r' = r ∧ z' = z) := ⟨r, z, e, rfl, rfl⟩
  obtain ⟨a, -, r1, z1, e1, rfl, rfl⟩ := wq_pb.mp q
  exact h _ _ _ e1
theorem KSM_bt {x : Option (Sum Nat α × CSt)} {k : α → CSt → Option (Sum Nat γ × CSt)} (hx : KSM x u) (h : ∀ r w, KSM (k r w) w) : KSM (bt x k) u := by
  intro r z e
  unfold bt at e
  cases hq : x with
  | none => rw [hq] at e; cases e
  | some a =>
    obtain ⟨y, v⟩ := a
    rw [hq] at e
    cases y with
    | inl n => cases e; exact hx _ _ hq
    | inr b => exact smf_tr (hx _ _ hq) (h _ _ _ _ e)
theorem KSM_ix {n : Nat} {i : Int32} {x : Option (β × CSt)} (h : KSM x u) : KSM (ix n i x) u := by
  intro r z e
  have q : wq (ix n i x) (fun r' z' => r' = r ∧ z' = z) := ⟨r, z, e, rfl, rfl⟩
  obtain ⟨r1, z1, e1, rfl, rfl⟩ := (wq_ix.mp q).2
  exact h _ _ e1
theorem KSM_bh {x : Option (Sum Nat α × CSt)} {kc : CSt → Option (β × CSt)} {k : α → CSt → Option (β × CSt)} (hx : KSM x u) (h0 : ∀ w, KSM (kc w) w) (h : ∀ r w, KSM (k r w) w) : KSM (bh x kc k) u := by
  intro r z e
  obtain ⟨y1, w1, e1, ⟨-, e2⟩ | ⟨q, -, e2⟩⟩ := bh_of e
  · exact smf_tr (hx _ _ e1) (h0 _ _ _ e2)
  · exact smf_tr (hx _ _ e1) (h _ _ _ _ e2)
end KSMs

theorem nsm_B_X6_name_0 {N : Nat} {l0 : Nat} {l1 : Int32} {u : CSt}  : KSM (B_X6_name_0 N l0 l1 u) u := by
  unfold B_X6_name_0
  refine KSM_if ?_ ?_
  · skip
    exact KSM_some smf_rf
  · skip
    refine KSM_if ?_ ?_
    · skip
      exact KSM_some smf_rf
    · skip
      refine KSM_ix ?_
      exact KSM_some smf_rf
theorem nsm_F_X6_name {N : Nat} {l0 : Nat} {l1 : Int32} {u : CSt}  : KSM (F_X6_name N l0 l1 u) u := by
  unfold F_X6_name
  exact nsm_B_X6_name_0.tr smf_rf
theorem nsm_B_X6_local_0 {N : Nat} {l0 : Nat} {l1 : Nat} {l2 : Int32} {u : CSt}  : KSM (B_X6_local_0 N l0 l1 l2 u) u := by
  unfold B_X6_local_0
  refine KSM_if ?_ ?_
  · skip
    exact KSM_some smf_rf
  · skip
    refine KSM_if ?_ ?_
    · skip
      exact KSM_some smf_rf
    · skip
      refine KSM_bc (nsm_F_X6_name.tr smf_rf) (fun _ _ => ?_)
      refine KSM_ok ?_
      exact KSM_some smf_rf
theorem nsm_F_X6_local {N : Nat} {l0 : Nat} {l1 : Nat} {l2 : Int32} {u : CSt}  : KSM (F_X6_local N l0 l1 l2 u) u := by
  unfold F_X6_local
  exact nsm_B_X6_local_0.tr smf_rf
theorem nsm_B_X6_localCalled_71 {N : Nat} {R_12 : Nat × Nat × Int64 × Int32 × Int32 × Int32 × CSt → Option (Nat × CSt)} {l0 : Nat} {l1 : Nat} {l2 : Int64} {l4 : Int32} {l5 : Int32} {l6 : Int32} {u : CSt} (h_R_12 : ∀ a, KSM (R_12 a) a.2.2.2.2.2.2) : KSM (B_X6_localCalled_71 N R_12 l0 l1 l2 l4 l5 l6 u) u := by
  unfold B_X6_localCalled_71
  exact (h_R_12 _).tr smf_rf
theorem nsm_B_X6_localCalled_12 {N : Nat} {R_12 : Nat × Nat × Int64 × Int32 × Int32 × Int32 × CSt → Option (Nat × CSt)} {l0 : Nat} {l1 : Nat} {l2 : Int64} {l4 : Int32} {l5 : Int32} {l6 : Int32} {u : CSt} (h_R_12 : ∀ a, KSM (R_12 a) a.2.2.2.2.2.2) : KSM (B_X6_localCalled_12 N R_12 l0 l1 l2 l4 l5 l6 u) u := by
  unfold B_X6_localCalled_12
  refine KSM_if ?_ ?_
  · skip
    exact KSM_some smf_rf
  · skip
    refine KSM_if ?_ ?_
    · skip
      exact KSM_some smf_rf
    · skip
      refine KSM_ix ?_
      refine KSM_if ?_ ?_
      · skip
        refine KSM_ix ?_
        refine KSM_if ?_ ?_
        · skip
          refine KSM_ix ?_
          exact KSM_some smf_rf
        · skip
          exact (nsm_B_X6_localCalled_71 h_R_12).tr smf_rf
      · skip
        exact (nsm_B_X6_localCalled_71 h_R_12).tr smf_rf
theorem nsm_LP_X6_localCalled_12 {N : Nat}  (n : Nat) : ∀ a : Nat × Nat × Int64 × Int32 × Int32 × Int32 × CSt, KSM (LP_X6_localCalled_12 N n a) a.2.2.2.2.2.2 := by
  induction n with
  | zero => exact fun a r z e => by have e : (none : Option _) = some (r, z) := e; cases e
  | succ n ih =>
    intro a
    show KSM (B_X6_localCalled_12 N (LP_X6_localCalled_12 N n) a.1 a.2.1 a.2.2.1 a.2.2.2.1 a.2.2.2.2.1 a.2.2.2.2.2.1 a.2.2.2.2.2.2) a.2.2.2.2.2.2
    exact nsm_B_X6_localCalled_12 ih
theorem nsm_B_X6_localCalled_0 {N : Nat} {l0 : Nat} {l1 : Nat} {l2 : Int64} {l4 : Int32} {u : CSt}  : KSM (B_X6_localCalled_0 N l0 l1 l2 l4 u) u := by
  unfold B_X6_localCalled_0
  exact (nsm_LP_X6_localCalled_12  _ _).tr smf_rf
theorem nsm_F_X6_localCalled {N : Nat} {l0 : Nat} {l1 : Nat} {l2 : Int64} {l4 : Int32} {u : CSt}  : KSM (F_X6_localCalled N l0 l1 l2 l4 u) u := by
  unfold F_X6_localCalled
  exact nsm_B_X6_localCalled_0.tr smf_rf
theorem nsm_B_X6_ofText_52 {N : Nat} {R_3 : Nat × Int64 × Int32 × Int32 × CSt → Option (Nat × CSt)} {l0 : Nat} {l1 : Int64} {l3 : Int32} {l4 : Int32} {u : CSt} (h_R_3 : ∀ a, KSM (R_3 a) a.2.2.2.2) : KSM (B_X6_ofText_52 N R_3 l0 l1 l3 l4 u) u := by
  unfold B_X6_ofText_52
  exact (h_R_3 _).tr smf_rf
theorem nsm_B_X6_ofText_61 {N : Nat} {R_61 : Nat × Int64 × Int32 × Int32 × CSt → Option (Nat × CSt)} {l0 : Nat} {l1 : Int64} {l3 : Int32} {l4 : Int32} {u : CSt} (h_R_61 : ∀ a, KSM (R_61 a) a.2.2.2.2) : KSM (B_X6_ofText_61 N R_61 l0 l1 l3 l4 u) u := by
  unfold B_X6_ofText_61
  refine KSM_if ?_ ?_
  · skip
    exact KSM_some smf_rf
  · skip
    refine KSM_if ?_ ?_
    · skip
      refine KSM_ix ?_
      refine KSM_if ?_ ?_
      · skip
        refine KSM_ix ?_
        exact KSM_some smf_rf
      · skip
        exact (h_R_61 _).tr smf_rf
    · skip
      exact KSM_some smf_rf
theorem nsm_LP_X6_ofText_61 {N : Nat}  (n : Nat) : ∀ a : Nat × Int64 × Int32 × Int32 × CSt, KSM (LP_X6_ofText_61 N n a) a.2.2.2.2 := by
  induction n with
  | zero => exact fun a r z e => by have e : (none : Option _) = some (r, z) := e; cases e
  | succ n ih =>
    intro a
    show KSM (B_X6_ofText_61 N (LP_X6_ofText_61 N n) a.1 a.2.1 a.2.2.1 a.2.2.2.1 a.2.2.2.2) a.2.2.2.2
    exact nsm_B_X6_ofText_61 ih
theorem nsm_B_X6_ofText_3 {N : Nat} {R_3 : Nat × Int64 × Int32 × Int32 × CSt → Option (Nat × CSt)} {l0 : Nat} {l1 : Int64} {l3 : Int32} {l4 : Int32} {u : CSt} (h_R_3 : ∀ a, KSM (R_3 a) a.2.2.2.2) : KSM (B_X6_ofText_3 N R_3 l0 l1 l3 l4 u) u := by
  unfold B_X6_ofText_3
  refine KSM_if ?_ ?_
  · skip
    exact (nsm_LP_X6_ofText_61  _ _).tr smf_rf
  · skip
    refine KSM_ix ?_
    refine KSM_if ?_ ?_
    · skip
      refine KSM_if ?_ ?_
      · skip
        refine KSM_if ?_ ?_
        · skip
          exact (nsm_B_X6_ofText_52 h_R_3).tr smf_rf
        · skip
          exact KSM_some smf_rf
      · skip
        exact (nsm_B_X6_ofText_52 h_R_3).tr smf_rf
    · skip
      exact (nsm_B_X6_ofText_52 h_R_3).tr smf_rf
theorem nsm_LP_X6_ofText_3 {N : Nat}  (n : Nat) : ∀ a : Nat × Int64 × Int32 × Int32 × CSt, KSM (LP_X6_ofText_3 N n a) a.2.2.2.2 := by
  induction n with
  | zero => exact fun a r z e => by have e : (none : Option _) = some (r, z) := e; cases e
  | succ n ih =>
    intro a
    show KSM (B_X6_ofText_3 N (LP_X6_ofText_3 N n) a.1 a.2.1 a.2.2.1 a.2.2.2.1 a.2.2.2.2) a.2.2.2.2
    exact nsm_B_X6_ofText_3 ih
theorem nsm_B_X6_ofText_0 {N : Nat} {l0 : Nat} {l1 : Int64} {l3 : Int32} {u : CSt}  : KSM (B_X6_ofText_0 N l0 l1 l3 u) u := by
  unfold B_X6_ofText_0
  exact (nsm_LP_X6_ofText_3  _ _).tr smf_rf
theorem nsm_F_X6_ofText {N : Nat} {l0 : Nat} {l1 : Int64} {l3 : Int32} {u : CSt}  : KSM (F_X6_ofText N l0 l1 l3 u) u := by
  unfold F_X6_ofText
  exact nsm_B_X6_ofText_0.tr smf_rf
theorem nsm_B_X9_is_0 {N : Nat} {l1 : Int32} {u : CSt}  : KSM (B_X9_is_0 N l1 u) u := by
  unfold B_X9_is_0
  refine KSM_rd (fun _ => ?_)
  refine KSM_if ?_ ?_
  · skip
    exact KSM_some smf_rf
  · skip
    exact KSM_some smf_rf
theorem nsm_F_X9_is {N : Nat} {l1 : Int32} {u : CSt}  : KSM (F_X9_is N l1 u) u := by
  unfold F_X9_is
  exact nsm_B_X9_is_0.tr smf_rf
theorem nsm_B_X9_here_0 {N : Nat} {u : CSt}  : KSM (B_X9_here_0 N u) u := by
  unfold B_X9_here_0
  refine KSM_rd (fun _ => ?_)
  exact KSM_some smf_rf
theorem nsm_F_X9_here {N : Nat} {u : CSt}  : KSM (F_X9_here N u) u := by
  unfold F_X9_here
  exact nsm_B_X9_here_0.tr smf_rf
theorem nsm_B_X9_head_0 {N : Nat} {u : CSt}  : KSM (B_X9_head_0 N u) u := by
  unfold B_X9_head_0
  refine KSM_rd (fun _ => ?_)
  exact KSM_some smf_rf
theorem nsm_F_X9_head {N : Nat} {u : CSt}  : KSM (F_X9_head N u) u := by
  unfold F_X9_head
  exact nsm_B_X9_head_0.tr smf_rf
theorem nsm_B_X9_tail_0 {N : Nat} {u : CSt}  : KSM (B_X9_tail_0 N u) u := by
  unfold B_X9_tail_0
  refine KSM_rd (fun _ => ?_)
  exact KSM_some smf_rf
theorem nsm_F_X9_tail {N : Nat} {u : CSt}  : KSM (F_X9_tail N u) u := by
  unfold F_X9_tail
  exact nsm_B_X9_tail_0.tr smf_rf
theorem nsm_B_X9_isWide_0 {N : Nat} {u : CSt}  : KSM (B_X9_isWide_0 N u) u := by
  unfold B_X9_isWide_0
  refine KSM_rd (fun _ => ?_)
  refine KSM_if ?_ ?_
  · skip
    exact KSM_some smf_rf
  · skip
    exact KSM_some smf_rf
theorem nsm_F_X9_isWide {N : Nat} {u : CSt}  : KSM (F_X9_isWide N u) u := by
  unfold F_X9_isWide
  exact nsm_B_X9_isWide_0.tr smf_rf
theorem nsm_B_X9_next_0 {N : Nat} {u : CSt}  : KSM (B_X9_next_0 N u) u := by
  unfold B_X9_next_0
  refine KSM_if ?_ ?_
  · skip
    exact KSM_some smf_rf
  · skip
    refine KSM_pc ?_
    exact KSM_some (fsm_xI (by decide) smf_rf)
theorem nsm_F_X9_next {N : Nat} {u : CSt}  : KSM (F_X9_next N u) u := by
  unfold F_X9_next
  exact nsm_B_X9_next_0.tr smf_rf
theorem nsm_B_X9_refuse_0 {N : Nat} {l1 : Int32} {l2 : Int32} {u : CSt}  : KSM (B_X9_refuse_0 N l1 l2 u) u := by
  unfold B_X9_refuse_0
  refine KSM_pc ?_
  refine KSM_pc ?_
  exact KSM_some (fsm_xI (by decide) (fsm_xI (by decide) smf_rf))
theorem nsm_F_X9_refuse {N : Nat} {l1 : Int32} {l2 : Int32} {u : CSt}  : KSM (F_X9_refuse N l1 l2 u) u := by
  unfold F_X9_refuse
  exact nsm_B_X9_refuse_0.tr smf_rf
theorem nsm_B_X9_takeNumber_28 {N : Nat} {u : CSt}  : KSM (B_X9_takeNumber_28 N u) u := by
  unfold B_X9_takeNumber_28
  refine KSM_rd (fun _ => ?_)
  refine KSM_bc (nsm_F_X9_next.tr smf_rf) (fun _ _ => ?_)
  exact KSM_some smf_rf
theorem nsm_B_X9_takeNumber_0 {N : Nat} {u : CSt}  : KSM (B_X9_takeNumber_0 N u) u := by
  unfold B_X9_takeNumber_0
  refine KSM_rd (fun _ => ?_)
  refine KSM_if ?_ ?_
  · skip
    exact nsm_B_X9_takeNumber_28.tr smf_rf
  · skip
    refine KSM_rd (fun _ => ?_)
    refine KSM_bt (nsm_F_X9_refuse.tr smf_rf) (fun _ _ => ?_)
    exact nsm_B_X9_takeNumber_28.tr smf_rf
theorem nsm_F_X9_takeNumber {N : Nat} {u : CSt}  : KSM (F_X9_takeNumber N u) u := by
  unfold F_X9_takeNumber
  exact nsm_B_X9_takeNumber_0.tr smf_rf
theorem nsm_B_X9_takeBounded_53 {N : Nat} {l5 : Int64} {u : CSt}  : KSM (B_X9_takeBounded_53 N l5 u) u := by
  unfold B_X9_takeBounded_53
  refine KSM_bc (nsm_F_X9_next.tr smf_rf) (fun _ _ => ?_)
  exact KSM_some smf_rf
theorem nsm_B_X9_takeBounded_39 {N : Nat} {l5 : Int64} {u : CSt}  : KSM (B_X9_takeBounded_39 N l5 u) u := by
  unfold B_X9_takeBounded_39
  refine KSM_rd (fun _ => ?_)
  refine KSM_bt (nsm_F_X9_refuse.tr smf_rf) (fun _ _ => ?_)
  exact nsm_B_X9_takeBounded_53.tr smf_rf
theorem nsm_B_X9_takeBounded_0 {N : Nat} {l1 : Int64} {l3 : Int64} {u : CSt}  : KSM (B_X9_takeBounded_0 N l1 l3 u) u := by
  unfold B_X9_takeBounded_0
  refine KSM_rd (fun _ => ?_)
  refine KSM_rd (fun _ => ?_)
  refine KSM_if ?_ ?_
  · skip
    refine KSM_if ?_ ?_
    · skip
      exact nsm_B_X9_takeBounded_39.tr smf_rf
    · skip
      refine KSM_if ?_ ?_
      · skip
        exact nsm_B_X9_takeBounded_53.tr smf_rf
      · skip
        exact nsm_B_X9_takeBounded_39.tr smf_rf
  · skip
    exact nsm_B_X9_takeBounded_39.tr smf_rf
theorem nsm_F_X9_takeBounded {N : Nat} {l1 : Int64} {l3 : Int64} {u : CSt}  : KSM (F_X9_takeBounded N l1 l3 u) u := by
  unfold F_X9_takeBounded
  exact nsm_B_X9_takeBounded_0.tr smf_rf
theorem nsm_B_X9_takeKind_0 {N : Nat} {u : CSt}  : KSM (B_X9_takeKind_0 N u) u := by
  unfold B_X9_takeKind_0
  refine KSM_rd (fun _ => ?_)
  refine KSM_bc (nsm_F_X9_next.tr smf_rf) (fun _ _ => ?_)
  exact KSM_some smf_rf
theorem nsm_F_X9_takeKind {N : Nat} {u : CSt}  : KSM (F_X9_takeKind N u) u := by
  unfold F_X9_takeKind
  exact nsm_B_X9_takeKind_0.tr smf_rf
theorem nsm_B_X8_known_0 {N : Nat} {u : CSt}  : KSM (B_X8_known_0 N u) u := by
  unfold B_X8_known_0
  refine KSM_bc (nsm_F_X9_head.tr smf_rf) (fun _ _ => ?_)
  refine KSM_bc (nsm_F_X9_tail.tr smf_rf) (fun _ _ => ?_)
  refine KSM_ok ?_
  refine KSM_bc (nsm_F_X6_name.tr smf_rf) (fun _ _ => ?_)
  refine KSM_ok ?_
  refine KSM_bc (nsm_F_X6_localCalled.tr smf_rf) (fun _ _ => ?_)
  refine KSM_ok ?_
  refine KSM_if ?_ ?_
  · skip
    refine KSM_ok ?_
    refine KSM_bc (nsm_F_X6_ofText.tr smf_rf) (fun _ _ => ?_)
    refine KSM_ok ?_
    exact KSM_some smf_rf
  · skip
    exact KSM_some smf_rf
theorem nsm_F_X8_known {N : Nat} {u : CSt}  : KSM (F_X8_known N u) u := by
  unfold F_X8_known
  exact nsm_B_X8_known_0.tr smf_rf
theorem nsm_B_X3_constant_60 {N : Nat} {l1 : Int32} {l3 : Int32} {l5 : Int64} {u : CSt}  : KSM (B_X3_constant_60 N l1 l3 l5 u) u := by
  unfold B_X3_constant_60
  refine KSM_if ?_ ?_
  · skip
    refine KSM_bt (nsm_F_X9_refuse.tr smf_rf) (fun _ _ => ?_)
    exact KSM_some smf_rf
  · skip
    exact KSM_some smf_rf
theorem nsm_B_X3_constant_21 {N : Nat} {l1 : Int32} {l2 : Int32} {u : CSt}  : KSM (B_X3_constant_21 N l1 l2 u) u := by
  unfold B_X3_constant_21
  refine KSM_bc (nsm_F_X9_here.tr smf_rf) (fun _ _ => ?_)
  refine KSM_bc (nsm_F_X9_isWide.tr smf_rf) (fun _ _ => ?_)
  refine KSM_bt (nsm_F_X9_takeNumber.tr smf_rf) (fun _ _ => ?_)
  refine KSM_if ?_ ?_
  · skip
    exact nsm_B_X3_constant_60.tr smf_rf
  · skip
    exact nsm_B_X3_constant_60.tr smf_rf
theorem nsm_B_X3_constant_0 {N : Nat} {l1 : Int32} {u : CSt}  : KSM (B_X3_constant_0 N l1 u) u := by
  unfold B_X3_constant_0
  refine KSM_bc (nsm_F_X9_is.tr smf_rf) (fun _ _ => ?_)
  refine KSM_if ?_ ?_
  · skip
    exact nsm_B_X3_constant_21.tr smf_rf
  · skip
    refine KSM_bc (nsm_F_X9_next.tr smf_rf) (fun _ _ => ?_)
    exact nsm_B_X3_constant_21.tr smf_rf
theorem nsm_F_X3_constant {N : Nat} {l1 : Int32} {u : CSt}  : KSM (F_X3_constant N l1 u) u := by
  unfold F_X3_constant
  exact nsm_B_X3_constant_0.tr smf_rf
/-! What leaves the address (cell 12). -/
def q12 (u w : CSt) : Prop := cI w 12 = cI u 12
def K12 {β : Type} (x : Option (β × CSt)) (u : CSt) : Prop := ∀ r w, x = some (r, w) → q12 u w
section K12s
variable {α β γ : Type} {u v w : CSt}
theorem q12_rf : q12 u u := rfl
theorem q12_tr (h : q12 u v) (h2 : q12 v w) : q12 u w := Eq.trans (show cI w 12 = cI v 12 from h2) h
theorem K12.tr {x : Option (β × CSt)} (hx : K12 x w) (h : q12 u w) : K12 x u := fun r z e => q12_tr h (hx r z e)
theorem K12.p {x : Option (β × CSt)} (hx : K12 x u) : pq x (fun _ w => q12 u w) := hx
theorem f12_xI {k : Nat} {a : Int32} (hk : k ≠ 12) (h : q12 u w) : q12 u (xI w k a) := by
  refine q12_tr h ?_
  show (if 12 = k then a else cI w 12) = cI w 12
  rw [if_neg (fun z => hk z.symm)]
theorem f12_xL {k : Nat} {a : Int64} (h : q12 u w) : q12 u (xL w k a) := h
theorem f12_xA {k i : Nat} {a : Int32} (h : q12 u w) : q12 u (xA w k i a) := h
theorem f12_xB {k i : Nat} {a : Int64} (h : q12 u w) : q12 u (xB w k i a) := h
theorem f12_xpI {q k : Nat} {a : Int32} (h : q12 u w) : q12 u (xpI w q k a) := h
theorem f12_xpA {q k i : Nat} {a : Int32} (h : q12 u w) : q12 u (xpA w q k i a) := h
theorem f12_xmI {m k : Nat} {a : Int32} (h : q12 u w) : q12 u (xmI w m k a) := h
theorem f12_xmL {m k : Nat} {a : Int64} (h : q12 u w) : q12 u (xmL w m k a) := h
theorem K12_some {r : β} (h : q12 u w) : K12 (some (r, w)) u := fun _ _ e => by cases e; exact h
theorem K12_none : K12 (none : Option (β × CSt)) u := fun _ _ e => nomatch e
theorem K12_rd {f : Nat → α} {n : Nat} {i : Int32} {k : α → Option (β × CSt)} (h : ∀ a, K12 (k a) u) : K12 (rd f n i k) u := by
  intro r z e
  have q : wq (rd f n i k) (fun r' z' => r' = r ∧ z' = z) := ⟨r, z, e, rfl, rfl⟩
  obtain ⟨r1, z1, e1, rfl, rfl⟩ := (wq_rd.mp q).2
  exact h _ _ _ e1
theorem K12_if {c : Prop} {d : Decidable c} {a b : Option (β × CSt)} (ha : K12 a u) (hb : K12 b u) : K12 (if c then a else b) u := by
  by_cases q : c
  · rw [if_pos q]; exact ha
  · rw [if_neg q]; exact hb
theorem K12_zr {v : Int32} {x : Option (β × CSt)} (h : K12 x u) : K12 (zr v x) u := fun r z e => h r z (zr_of e).2
theorem K12_nz {v : Int32} {x : Option (β × CSt)} (h : K12 x u) : K12 (nz v x) u := fun r z e => h r z (nz_of e).2
theorem K12_ok {P : Prop} {d : Decidable P} {x : Option (β × CSt)} (h : K12 x u) : K12 (ok P d x) u := fun r z e => h r z (ok_of e).2
theorem K12_pc {x : CSt} {k : CSt → Option (β × CSt)} (h : K12 (k x) u) : K12 (pc x k) u := h
theorem K12_wc {n : Nat} {i : Int32} {x : CSt} {k : CSt → Option (β × CSt)} (h : K12 (k x) u) : K12 (wc n i x k) u := by
  intro r z e
  have q : wq (wc n i x k) (fun r' z' => r' = r ∧ z' = z) := ⟨r, z, e, rfl, rfl⟩
  obtain ⟨r1, z1, e1, rfl, rfl⟩ := (wq_wc.mp q).2
  exact h _ _ e1
theorem K12_bc {x : Option (α × CSt)} {k : α → CSt → Option (β × CSt)} (hx : K12 x u) (h : ∀ r w, K12 (k r w) w) : K12 (bc x k) u := by
  intro r z e
  have q : wq (bc x k) (fun r' z' => r' = r ∧ z' = z) := ⟨r, z, e, rfl, rfl⟩
  obtain ⟨r1, z1, e1, r2, z2, e2, rfl, rfl⟩ := wq_bc.mp q
  exact q12_tr (hx _ _ e1) (h _ _ _ _ e2)
theorem K12_pb {x : Option α} {k : α → Option (β × CSt)} (h : ∀ a, K12 (k a) u) : K12 (pb x k) u := by
  intro r z e
  have q : wq (pb x k) (fun r' z' => r' = r ∧ z' = z) := ⟨r, z, e, rfl, rfl⟩
  obtain ⟨a, -, r1, z1, e1, rfl, rfl⟩ := wq_pb.mp q
  exact h _ _ _ e1
theorem K12_bt {x : Option (Sum Nat α × CSt)} {k : α → CSt → Option (Sum Nat γ × CSt)} (hx : K12 x u) (h : ∀ r w, K12 (k r w) w) : K12 (bt x k) u := by
  intro r z e
  unfold bt at e
  cases hq : x with
  | none => rw [hq] at e; cases e
  | some a =>
    obtain ⟨y, v⟩ := a
    rw [hq] at e
    cases y with
    | inl n => cases e; exact hx _ _ hq
    | inr b => exact q12_tr (hx _ _ hq) (h _ _ _ _ e)
theorem K12_ix {n : Nat} {i : Int32} {x : Option (β × CSt)} (h : K12 x u) : K12 (ix n i x) u := by
  intro r z e
  have q : wq (ix n i x) (fun r' z' => r' = r ∧ z' = z) := ⟨r, z, e, rfl, rfl⟩
  obtain ⟨r1, z1, e1, rfl, rfl⟩ := (wq_ix.mp q).2
  exact h _ _ e1
theorem K12_bh {x : Option (Sum Nat α × CSt)} {kc : CSt → Option (β × CSt)} {k : α → CSt → Option (β × CSt)} (hx : K12 x u) (h0 : ∀ w, K12 (kc w) w) (h : ∀ r w, K12 (k r w) w) : K12 (bh x kc k) u := by
  intro r z e
  obtain ⟨y1, w1, e1, ⟨-, e2⟩ | ⟨q, -, e2⟩⟩ := bh_of e
  · exact q12_tr (hx _ _ e1) (h0 _ _ _ e2)
  · exact q12_tr (hx _ _ e1) (h _ _ _ _ e2)
end K12s

theorem n12_B_X4_become_0 {N : Nat} {l0 : Nat} {l1 : Int32} {l2 : Int64} {l4 : Int32} {u : CSt}  : K12 (B_X4_become_0 N l0 l1 l2 l4 u) u := by
  unfold B_X4_become_0
  refine K12_pc ?_
  refine K12_pc ?_
  refine K12_pc ?_
  refine K12_pc ?_
  refine K12_pc ?_
  refine K12_pc ?_
  refine K12_pc ?_
  refine K12_pc ?_
  refine K12_pc ?_
  refine K12_pc ?_
  refine K12_pc ?_
  refine K12_pc ?_
  refine K12_pc ?_
  refine K12_pc ?_
  exact K12_some (f12_xmI (f12_xmI (f12_xmI (f12_xmI (f12_xmL (f12_xmI (f12_xmI (f12_xmI (f12_xmI (f12_xmI (f12_xmI (f12_xmI (f12_xmI (f12_xmL q12_rf))))))))))))))
theorem n12_F_X4_become {N : Nat} {l0 : Nat} {l1 : Int32} {l2 : Int64} {l4 : Int32} {u : CSt}  : K12 (F_X4_become N l0 l1 l2 l4 u) u := by
  unfold F_X4_become
  exact n12_B_X4_become_0.tr q12_rf
theorem n12_B_X6_name_0 {N : Nat} {l0 : Nat} {l1 : Int32} {u : CSt}  : K12 (B_X6_name_0 N l0 l1 u) u := by
  unfold B_X6_name_0
  refine K12_if ?_ ?_
  · skip
    exact K12_some q12_rf
  · skip
    refine K12_if ?_ ?_
    · skip
      exact K12_some q12_rf
    · skip
      refine K12_ix ?_
      exact K12_some q12_rf
theorem n12_F_X6_name {N : Nat} {l0 : Nat} {l1 : Int32} {u : CSt}  : K12 (F_X6_name N l0 l1 u) u := by
  unfold F_X6_name
  exact n12_B_X6_name_0.tr q12_rf
theorem n12_B_X6_localCalled_71 {N : Nat} {R_12 : Nat × Nat × Int64 × Int32 × Int32 × Int32 × CSt → Option (Nat × CSt)} {l0 : Nat} {l1 : Nat} {l2 : Int64} {l4 : Int32} {l5 : Int32} {l6 : Int32} {u : CSt} (h_R_12 : ∀ a, K12 (R_12 a) a.2.2.2.2.2.2) : K12 (B_X6_localCalled_71 N R_12 l0 l1 l2 l4 l5 l6 u) u := by
  unfold B_X6_localCalled_71
  exact (h_R_12 _).tr q12_rf
theorem n12_B_X6_localCalled_12 {N : Nat} {R_12 : Nat × Nat × Int64 × Int32 × Int32 × Int32 × CSt → Option (Nat × CSt)} {l0 : Nat} {l1 : Nat} {l2 : Int64} {l4 : Int32} {l5 : Int32} {l6 : Int32} {u : CSt} (h_R_12 : ∀ a, K12 (R_12 a) a.2.2.2.2.2.2) : K12 (B_X6_localCalled_12 N R_12 l0 l1 l2 l4 l5 l6 u) u := by
  unfold B_X6_localCalled_12
  refine K12_if ?_ ?_
  · skip
    exact K12_some q12_rf
  · skip
    refine K12_if ?_ ?_
    · skip
      exact K12_some q12_rf
    · skip
      refine K12_ix ?_
      refine K12_if ?_ ?_
      · skip
        refine K12_ix ?_
        refine K12_if ?_ ?_
        · skip
          refine K12_ix ?_
          exact K12_some q12_rf
        · skip
          exact (n12_B_X6_localCalled_71 h_R_12).tr q12_rf
      · skip
        exact (n12_B_X6_localCalled_71 h_R_12).tr q12_rf
theorem n12_LP_X6_localCalled_12 {N : Nat}  (n : Nat) : ∀ a : Nat × Nat × Int64 × Int32 × Int32 × Int32 × CSt, K12 (LP_X6_localCalled_12 N n a) a.2.2.2.2.2.2 := by
  induction n with
  | zero => exact fun a r z e => by have e : (none : Option _) = some (r, z) := e; cases e
  | succ n ih =>
    intro a
    show K12 (B_X6_localCalled_12 N (LP_X6_localCalled_12 N n) a.1 a.2.1 a.2.2.1 a.2.2.2.1 a.2.2.2.2.1 a.2.2.2.2.2.1 a.2.2.2.2.2.2) a.2.2.2.2.2.2
    exact n12_B_X6_localCalled_12 ih
theorem n12_B_X6_localCalled_0 {N : Nat} {l0 : Nat} {l1 : Nat} {l2 : Int64} {l4 : Int32} {u : CSt}  : K12 (B_X6_localCalled_0 N l0 l1 l2 l4 u) u := by
  unfold B_X6_localCalled_0
  exact (n12_LP_X6_localCalled_12  _ _).tr q12_rf
theorem n12_F_X6_localCalled {N : Nat} {l0 : Nat} {l1 : Nat} {l2 : Int64} {l4 : Int32} {u : CSt}  : K12 (F_X6_localCalled N l0 l1 l2 l4 u) u := by
  unfold F_X6_localCalled
  exact n12_B_X6_localCalled_0.tr q12_rf
theorem n12_B_X6_ofText_52 {N : Nat} {R_3 : Nat × Int64 × Int32 × Int32 × CSt → Option (Nat × CSt)} {l0 : Nat} {l1 : Int64} {l3 : Int32} {l4 : Int32} {u : CSt} (h_R_3 : ∀ a, K12 (R_3 a) a.2.2.2.2) : K12 (B_X6_ofText_52 N R_3 l0 l1 l3 l4 u) u := by
  unfold B_X6_ofText_52
  exact (h_R_3 _).tr q12_rf
theorem n12_B_X6_ofText_61 {N : Nat} {R_61 : Nat × Int64 × Int32 × Int32 × CSt → Option (Nat × CSt)} {l0 : Nat} {l1 : Int64} {l3 : Int32} {l4 : Int32} {u : CSt} (h_R_61 : ∀ a, K12 (R_61 a) a.2.2.2.2) : K12 (B_X6_ofText_61 N R_61 l0 l1 l3 l4 u) u := by
  unfold B_X6_ofText_61
  refine K12_if ?_ ?_
  · skip
    exact K12_some q12_rf
  · skip
    refine K12_if ?_ ?_
    · skip
      refine K12_ix ?_
      refine K12_if ?_ ?_
      · skip
        refine K12_ix ?_
        exact K12_some q12_rf
      · skip
        exact (h_R_61 _).tr q12_rf
    · skip
      exact K12_some q12_rf
theorem n12_LP_X6_ofText_61 {N : Nat}  (n : Nat) : ∀ a : Nat × Int64 × Int32 × Int32 × CSt, K12 (LP_X6_ofText_61 N n a) a.2.2.2.2 := by
  induction n with
  | zero => exact fun a r z e => by have e : (none : Option _) = some (r, z) := e; cases e
  | succ n ih =>
    intro a
    show K12 (B_X6_ofText_61 N (LP_X6_ofText_61 N n) a.1 a.2.1 a.2.2.1 a.2.2.2.1 a.2.2.2.2) a.2.2.2.2
    exact n12_B_X6_ofText_61 ih
theorem n12_B_X6_ofText_3 {N : Nat} {R_3 : Nat × Int64 × Int32 × Int32 × CSt → Option (Nat × CSt)} {l0 : Nat} {l1 : Int64} {l3 : Int32} {l4 : Int32} {u : CSt} (h_R_3 : ∀ a, K12 (R_3 a) a.2.2.2.2) : K12 (B_X6_ofText_3 N R_3 l0 l1 l3 l4 u) u := by
  unfold B_X6_ofText_3
  refine K12_if ?_ ?_
  · skip
    exact (n12_LP_X6_ofText_61  _ _).tr q12_rf
  · skip
    refine K12_ix ?_
    refine K12_if ?_ ?_
    · skip
      refine K12_if ?_ ?_
      · skip
        refine K12_if ?_ ?_
        · skip
          exact (n12_B_X6_ofText_52 h_R_3).tr q12_rf
        · skip
          exact K12_some q12_rf
      · skip
        exact (n12_B_X6_ofText_52 h_R_3).tr q12_rf
    · skip
      exact (n12_B_X6_ofText_52 h_R_3).tr q12_rf
theorem n12_LP_X6_ofText_3 {N : Nat}  (n : Nat) : ∀ a : Nat × Int64 × Int32 × Int32 × CSt, K12 (LP_X6_ofText_3 N n a) a.2.2.2.2 := by
  induction n with
  | zero => exact fun a r z e => by have e : (none : Option _) = some (r, z) := e; cases e
  | succ n ih =>
    intro a
    show K12 (B_X6_ofText_3 N (LP_X6_ofText_3 N n) a.1 a.2.1 a.2.2.1 a.2.2.2.1 a.2.2.2.2) a.2.2.2.2
    exact n12_B_X6_ofText_3 ih
theorem n12_B_X6_ofText_0 {N : Nat} {l0 : Nat} {l1 : Int64} {l3 : Int32} {u : CSt}  : K12 (B_X6_ofText_0 N l0 l1 l3 u) u := by
  unfold B_X6_ofText_0
  exact (n12_LP_X6_ofText_3  _ _).tr q12_rf
theorem n12_F_X6_ofText {N : Nat} {l0 : Nat} {l1 : Int64} {l3 : Int32} {u : CSt}  : K12 (F_X6_ofText N l0 l1 l3 u) u := by
  unfold F_X6_ofText
  exact n12_B_X6_ofText_0.tr q12_rf
theorem n12_B_X6_add_86 {N : Nat} {l0 : Nat} {l5 : Nat} {u : CSt}  : K12 (B_X6_add_86 N l0 l5 u) u := by
  unfold B_X6_add_86
  refine K12_pc ?_
  exact K12_some (f12_xpI q12_rf)
theorem n12_B_X6_add_0 {N : Nat} {l0 : Nat} {l1 : Int32} {l2 : Int64} {l4 : Int32} {u : CSt}  : K12 (B_X6_add_0 N l0 l1 l2 l4 u) u := by
  unfold B_X6_add_0
  refine K12_if ?_ ?_
  · skip
    refine K12_ix ?_
    refine K12_bc (n12_F_X4_become.tr q12_rf) (fun _ _ => ?_)
    refine K12_pc ?_
    refine K12_if ?_ ?_
    · skip
      exact n12_B_X6_add_86.tr (f12_xmI q12_rf)
    · skip
      refine K12_rd (fun _ => ?_)
      refine K12_pc ?_
      refine K12_ix ?_
      refine K12_wc ?_
      refine K12_rd (fun _ => ?_)
      refine K12_wc ?_
      exact n12_B_X6_add_86.tr (f12_xpA (f12_xpA (f12_xmI (f12_xmI q12_rf))))
  · skip
    exact K12_some q12_rf
theorem n12_F_X6_add {N : Nat} {l0 : Nat} {l1 : Int32} {l2 : Int64} {l4 : Int32} {u : CSt}  : K12 (F_X6_add N l0 l1 l2 l4 u) u := by
  unfold F_X6_add
  exact n12_B_X6_add_0.tr q12_rf
theorem n12_B_X9_is_0 {N : Nat} {l1 : Int32} {u : CSt}  : K12 (B_X9_is_0 N l1 u) u := by
  unfold B_X9_is_0
  refine K12_rd (fun _ => ?_)
  refine K12_if ?_ ?_
  · skip
    exact K12_some q12_rf
  · skip
    exact K12_some q12_rf
theorem n12_F_X9_is {N : Nat} {l1 : Int32} {u : CSt}  : K12 (F_X9_is N l1 u) u := by
  unfold F_X9_is
  exact n12_B_X9_is_0.tr q12_rf
theorem n12_B_X9_here_0 {N : Nat} {u : CSt}  : K12 (B_X9_here_0 N u) u := by
  unfold B_X9_here_0
  refine K12_rd (fun _ => ?_)
  exact K12_some q12_rf
theorem n12_F_X9_here {N : Nat} {u : CSt}  : K12 (F_X9_here N u) u := by
  unfold F_X9_here
  exact n12_B_X9_here_0.tr q12_rf
theorem n12_B_X9_head_0 {N : Nat} {u : CSt}  : K12 (B_X9_head_0 N u) u := by
  unfold B_X9_head_0
  refine K12_rd (fun _ => ?_)
  exact K12_some q12_rf
theorem n12_F_X9_head {N : Nat} {u : CSt}  : K12 (F_X9_head N u) u := by
  unfold F_X9_head
  exact n12_B_X9_head_0.tr q12_rf
theorem n12_B_X9_tail_0 {N : Nat} {u : CSt}  : K12 (B_X9_tail_0 N u) u := by
  unfold B_X9_tail_0
  refine K12_rd (fun _ => ?_)
  exact K12_some q12_rf
theorem n12_F_X9_tail {N : Nat} {u : CSt}  : K12 (F_X9_tail N u) u := by
  unfold F_X9_tail
  exact n12_B_X9_tail_0.tr q12_rf
theorem n12_B_X9_isWide_0 {N : Nat} {u : CSt}  : K12 (B_X9_isWide_0 N u) u := by
  unfold B_X9_isWide_0
  refine K12_rd (fun _ => ?_)
  refine K12_if ?_ ?_
  · skip
    exact K12_some q12_rf
  · skip
    exact K12_some q12_rf
theorem n12_F_X9_isWide {N : Nat} {u : CSt}  : K12 (F_X9_isWide N u) u := by
  unfold F_X9_isWide
  exact n12_B_X9_isWide_0.tr q12_rf
theorem n12_B_X9_next_0 {N : Nat} {u : CSt}  : K12 (B_X9_next_0 N u) u := by
  unfold B_X9_next_0
  refine K12_if ?_ ?_
  · skip
    exact K12_some q12_rf
  · skip
    refine K12_pc ?_
    exact K12_some (f12_xI (by decide) q12_rf)
theorem n12_F_X9_next {N : Nat} {u : CSt}  : K12 (F_X9_next N u) u := by
  unfold F_X9_next
  exact n12_B_X9_next_0.tr q12_rf
theorem n12_B_X9_refuse_0 {N : Nat} {l1 : Int32} {l2 : Int32} {u : CSt}  : K12 (B_X9_refuse_0 N l1 l2 u) u := by
  unfold B_X9_refuse_0
  refine K12_pc ?_
  refine K12_pc ?_
  exact K12_some (f12_xI (by decide) (f12_xI (by decide) q12_rf))
theorem n12_F_X9_refuse {N : Nat} {l1 : Int32} {l2 : Int32} {u : CSt}  : K12 (F_X9_refuse N l1 l2 u) u := by
  unfold F_X9_refuse
  exact n12_B_X9_refuse_0.tr q12_rf
theorem n12_B_X9_takeNumber_28 {N : Nat} {u : CSt}  : K12 (B_X9_takeNumber_28 N u) u := by
  unfold B_X9_takeNumber_28
  refine K12_rd (fun _ => ?_)
  refine K12_bc (n12_F_X9_next.tr q12_rf) (fun _ _ => ?_)
  exact K12_some q12_rf
theorem n12_B_X9_takeNumber_0 {N : Nat} {u : CSt}  : K12 (B_X9_takeNumber_0 N u) u := by
  unfold B_X9_takeNumber_0
  refine K12_rd (fun _ => ?_)
  refine K12_if ?_ ?_
  · skip
    exact n12_B_X9_takeNumber_28.tr q12_rf
  · skip
    refine K12_rd (fun _ => ?_)
    refine K12_bt (n12_F_X9_refuse.tr q12_rf) (fun _ _ => ?_)
    exact n12_B_X9_takeNumber_28.tr q12_rf
theorem n12_F_X9_takeNumber {N : Nat} {u : CSt}  : K12 (F_X9_takeNumber N u) u := by
  unfold F_X9_takeNumber
  exact n12_B_X9_takeNumber_0.tr q12_rf
theorem n12_B_X9_takeBounded_53 {N : Nat} {l5 : Int64} {u : CSt}  : K12 (B_X9_takeBounded_53 N l5 u) u := by
  unfold B_X9_takeBounded_53
  refine K12_bc (n12_F_X9_next.tr q12_rf) (fun _ _ => ?_)
  exact K12_some q12_rf
theorem n12_B_X9_takeBounded_39 {N : Nat} {l5 : Int64} {u : CSt}  : K12 (B_X9_takeBounded_39 N l5 u) u := by
  unfold B_X9_takeBounded_39
  refine K12_rd (fun _ => ?_)
  refine K12_bt (n12_F_X9_refuse.tr q12_rf) (fun _ _ => ?_)
  exact n12_B_X9_takeBounded_53.tr q12_rf
theorem n12_B_X9_takeBounded_0 {N : Nat} {l1 : Int64} {l3 : Int64} {u : CSt}  : K12 (B_X9_takeBounded_0 N l1 l3 u) u := by
  unfold B_X9_takeBounded_0
  refine K12_rd (fun _ => ?_)
  refine K12_rd (fun _ => ?_)
  refine K12_if ?_ ?_
  · skip
    refine K12_if ?_ ?_
    · skip
      exact n12_B_X9_takeBounded_39.tr q12_rf
    · skip
      refine K12_if ?_ ?_
      · skip
        exact n12_B_X9_takeBounded_53.tr q12_rf
      · skip
        exact n12_B_X9_takeBounded_39.tr q12_rf
  · skip
    exact n12_B_X9_takeBounded_39.tr q12_rf
theorem n12_F_X9_takeBounded {N : Nat} {l1 : Int64} {l3 : Int64} {u : CSt}  : K12 (F_X9_takeBounded N l1 l3 u) u := by
  unfold F_X9_takeBounded
  exact n12_B_X9_takeBounded_0.tr q12_rf
theorem n12_B_X9_takeKind_0 {N : Nat} {u : CSt}  : K12 (B_X9_takeKind_0 N u) u := by
  unfold B_X9_takeKind_0
  refine K12_rd (fun _ => ?_)
  refine K12_bc (n12_F_X9_next.tr q12_rf) (fun _ _ => ?_)
  exact K12_some q12_rf
theorem n12_F_X9_takeKind {N : Nat} {u : CSt}  : K12 (F_X9_takeKind N u) u := by
  unfold F_X9_takeKind
  exact n12_B_X9_takeKind_0.tr q12_rf
theorem n12_B_X6_hasRoomFor_58 {N : Nat} {u : CSt}  : K12 (B_X6_hasRoomFor_58 N u) u := by
  unfold B_X6_hasRoomFor_58
  exact K12_some q12_rf
theorem n12_B_X6_hasRoomFor_0 {N : Nat} {l0 : Nat} {l1 : Int32} {u : CSt}  : K12 (B_X6_hasRoomFor_0 N l0 l1 u) u := by
  unfold B_X6_hasRoomFor_0
  refine K12_if ?_ ?_
  · skip
    refine K12_if ?_ ?_
    · skip
      refine K12_bc (n12_F_X6_name.tr q12_rf) (fun _ _ => ?_)
      refine K12_ok ?_
      refine K12_if ?_ ?_
      · skip
        exact K12_some q12_rf
      · skip
        exact K12_some q12_rf
    · skip
      refine K12_if ?_ ?_
      · skip
        exact n12_B_X6_hasRoomFor_58.tr q12_rf
      · skip
        refine K12_rd (fun _ => ?_)
        refine K12_rd (fun _ => ?_)
        refine K12_if ?_ ?_
        · skip
          exact K12_some q12_rf
        · skip
          exact n12_B_X6_hasRoomFor_58.tr q12_rf
  · skip
    exact K12_some q12_rf
theorem n12_F_X6_hasRoomFor {N : Nat} {l0 : Nat} {l1 : Int32} {u : CSt}  : K12 (F_X6_hasRoomFor N l0 l1 u) u := by
  unfold F_X6_hasRoomFor
  exact n12_B_X6_hasRoomFor_0.tr q12_rf
theorem n12_B_X3_newName_108 {N : Nat} {l1 : Int32} {l3 : Int64} {l5 : Int32} {u : CSt}  : K12 (B_X3_newName_108 N l1 l3 l5 u) u := by
  unfold B_X3_newName_108
  refine K12_bc (n12_F_X9_next.tr q12_rf) (fun _ _ => ?_)
  refine K12_ok ?_
  refine K12_bc (n12_F_X6_add.tr q12_rf) (fun _ _ => ?_)
  refine K12_ok ?_
  exact K12_some q12_rf
theorem n12_B_X3_newName_88 {N : Nat} {l1 : Int32} {l2 : Int32} {l3 : Int64} {l5 : Int32} {u : CSt}  : K12 (B_X3_newName_88 N l1 l2 l3 l5 u) u := by
  unfold B_X3_newName_88
  refine K12_ok ?_
  refine K12_bc (n12_F_X6_hasRoomFor.tr q12_rf) (fun _ _ => ?_)
  refine K12_if ?_ ?_
  · skip
    refine K12_bt (n12_F_X9_refuse.tr q12_rf) (fun _ _ => ?_)
    exact n12_B_X3_newName_108.tr q12_rf
  · skip
    exact n12_B_X3_newName_108.tr q12_rf
theorem n12_B_X3_newName_67 {N : Nat} {l1 : Int32} {l2 : Int32} {l3 : Int64} {l5 : Int32} {s0 : Nat} {u : CSt}  : K12 (B_X3_newName_67 N l1 l2 l3 l5 s0 u) u := by
  unfold B_X3_newName_67
  refine K12_if ?_ ?_
  · skip
    exact n12_B_X3_newName_88.tr q12_rf
  · skip
    refine K12_bt (n12_F_X9_refuse.tr q12_rf) (fun _ _ => ?_)
    exact n12_B_X3_newName_88.tr q12_rf
theorem n12_B_X3_newName_0 {N : Nat} {l1 : Int32} {u : CSt}  : K12 (B_X3_newName_0 N l1 u) u := by
  unfold B_X3_newName_0
  refine K12_bc (n12_F_X9_here.tr q12_rf) (fun _ _ => ?_)
  refine K12_bc (n12_F_X9_head.tr q12_rf) (fun _ _ => ?_)
  refine K12_bc (n12_F_X9_tail.tr q12_rf) (fun _ _ => ?_)
  refine K12_if ?_ ?_
  · skip
    refine K12_ok ?_
    refine K12_bc (n12_F_X6_name.tr q12_rf) (fun _ _ => ?_)
    refine K12_ok ?_
    refine K12_bc (n12_F_X6_localCalled.tr q12_rf) (fun _ _ => ?_)
    refine K12_ok ?_
    exact n12_B_X3_newName_67.tr q12_rf
  · skip
    refine K12_ok ?_
    refine K12_bc (n12_F_X6_ofText.tr q12_rf) (fun _ _ => ?_)
    refine K12_ok ?_
    exact n12_B_X3_newName_67.tr q12_rf
theorem n12_F_X3_newName {N : Nat} {l1 : Int32} {u : CSt}  : K12 (F_X3_newName N l1 u) u := by
  unfold F_X3_newName
  exact n12_B_X3_newName_0.tr q12_rf
theorem n12_B_X3_join_64 {N : Nat} {l2 : Int32} {l3 : Nat} {s0 : Nat} {s1 : Int32} {s2 : Int32} {u : CSt}  : K12 (B_X3_join_64 N l2 l3 s0 s1 s2 u) u := by
  unfold B_X3_join_64
  refine K12_pc ?_
  refine K12_if ?_ ?_
  · skip
    exact K12_some (f12_xmI q12_rf)
  · skip
    refine K12_bt (n12_F_X9_refuse.tr (f12_xmI q12_rf)) (fun _ _ => ?_)
    exact K12_some q12_rf
theorem n12_B_X3_join_0 {N : Nat} {l1 : Nat} {l2 : Int32} {u : CSt}  : K12 (B_X3_join_0 N l1 l2 u) u := by
  unfold B_X3_join_0
  refine K12_ok ?_
  refine K12_bc (n12_F_X6_name.tr q12_rf) (fun _ _ => ?_)
  refine K12_ok ?_
  refine K12_pc ?_
  refine K12_pc ?_
  refine K12_pc ?_
  refine K12_if ?_ ?_
  · skip
    exact n12_B_X3_join_64.tr (f12_xmI (f12_xmI (f12_xmI q12_rf)))
  · skip
    exact n12_B_X3_join_64.tr (f12_xmI (f12_xmI (f12_xmI q12_rf)))
theorem n12_F_X3_join {N : Nat} {l1 : Nat} {l2 : Int32} {u : CSt}  : K12 (F_X3_join N l1 l2 u) u := by
  unfold F_X3_join
  exact n12_B_X3_join_0.tr q12_rf
theorem n12_B_X3_constant_60 {N : Nat} {l1 : Int32} {l3 : Int32} {l5 : Int64} {u : CSt}  : K12 (B_X3_constant_60 N l1 l3 l5 u) u := by
  unfold B_X3_constant_60
  refine K12_if ?_ ?_
  · skip
    refine K12_bt (n12_F_X9_refuse.tr q12_rf) (fun _ _ => ?_)
    exact K12_some q12_rf
  · skip
    exact K12_some q12_rf
theorem n12_B_X3_constant_21 {N : Nat} {l1 : Int32} {l2 : Int32} {u : CSt}  : K12 (B_X3_constant_21 N l1 l2 u) u := by
  unfold B_X3_constant_21
  refine K12_bc (n12_F_X9_here.tr q12_rf) (fun _ _ => ?_)
  refine K12_bc (n12_F_X9_isWide.tr q12_rf) (fun _ _ => ?_)
  refine K12_bt (n12_F_X9_takeNumber.tr q12_rf) (fun _ _ => ?_)
  refine K12_if ?_ ?_
  · skip
    exact n12_B_X3_constant_60.tr q12_rf
  · skip
    exact n12_B_X3_constant_60.tr q12_rf
theorem n12_B_X3_constant_0 {N : Nat} {l1 : Int32} {u : CSt}  : K12 (B_X3_constant_0 N l1 u) u := by
  unfold B_X3_constant_0
  refine K12_bc (n12_F_X9_is.tr q12_rf) (fun _ _ => ?_)
  refine K12_if ?_ ?_
  · skip
    exact n12_B_X3_constant_21.tr q12_rf
  · skip
    refine K12_bc (n12_F_X9_next.tr q12_rf) (fun _ _ => ?_)
    exact n12_B_X3_constant_21.tr q12_rf
theorem n12_F_X3_constant {N : Nat} {l1 : Int32} {u : CSt}  : K12 (F_X3_constant N l1 u) u := by
  unfold F_X3_constant
  exact n12_B_X3_constant_0.tr q12_rf
theorem n12_B_X3_placed_0 {N : Nat} {l1 : Int32} {u : CSt}  : K12 (B_X3_placed_0 N l1 u) u := by
  unfold B_X3_placed_0
  refine K12_bc (n12_F_X9_takeKind.tr q12_rf) (fun _ _ => ?_)
  refine K12_bt (n12_F_X3_newName.tr q12_rf) (fun _ _ => ?_)
  refine K12_ok ?_
  refine K12_pc ?_
  refine K12_pc ?_
  refine K12_pc ?_
  refine K12_bc (n12_F_X9_next.tr (f12_xmI (f12_xmI (f12_xmI q12_rf)))) (fun _ _ => ?_)
  refine K12_rd (fun _ => ?_)
  refine K12_bt (n12_F_X9_takeBounded.tr q12_rf) (fun _ _ => ?_)
  refine K12_pc ?_
  refine K12_bc (n12_F_X9_next.tr (f12_xmI q12_rf)) (fun _ _ => ?_)
  exact K12_some q12_rf
theorem n12_F_X3_placed {N : Nat} {l1 : Int32} {u : CSt}  : K12 (F_X3_placed N l1 u) u := by
  unfold F_X3_placed
  exact n12_B_X3_placed_0.tr q12_rf
theorem n12_B_X3_parameter_19 {N : Nat} {u : CSt}  : K12 (B_X3_parameter_19 N u) u := by
  unfold B_X3_parameter_19
  refine K12_bc (n12_F_X9_takeKind.tr q12_rf) (fun _ _ => ?_)
  refine K12_bc (n12_F_X9_here.tr q12_rf) (fun _ _ => ?_)
  refine K12_bt (n12_F_X3_newName.tr q12_rf) (fun _ _ => ?_)
  refine K12_ok ?_
  refine K12_pc ?_
  refine K12_pc ?_
  refine K12_bt (n12_F_X3_join.tr (f12_xmI (f12_xmI q12_rf))) (fun _ _ => ?_)
  exact K12_some q12_rf
theorem n12_B_X3_parameter_0 {N : Nat} {u : CSt}  : K12 (B_X3_parameter_0 N u) u := by
  unfold B_X3_parameter_0
  refine K12_bc (n12_F_X9_is.tr q12_rf) (fun _ _ => ?_)
  refine K12_if ?_ ?_
  · skip
    exact n12_B_X3_parameter_19.tr q12_rf
  · skip
    refine K12_bc (n12_F_X9_next.tr q12_rf) (fun _ _ => ?_)
    exact n12_B_X3_parameter_19.tr q12_rf
theorem n12_F_X3_parameter {N : Nat} {u : CSt}  : K12 (F_X3_parameter N u) u := by
  unfold F_X3_parameter
  exact n12_B_X3_parameter_0.tr q12_rf
/-! What Items (but bodies) leave of the code: the reference. -/
def nY : List Nat := [32, 45, 49, 50, 51, 54, 75, 76]
def rcq (u w : RSt) : Prop := (∀ k, k ∈ [56, 70] → w.1 k = u.1 k) ∧ (∀ k, k ∈ nY → w.2.2.1 k = u.2.2.1 k) ∧ (∀ k, k ∈ [52, 53] → w.2.2.2 k = u.2.2.2 k)
def KYq {β : Type} (x : Option (β × RSt)) (u : RSt) : Prop := ∀ r w, x = some (r, w) → rcq u w
section KYqs
variable {α β γ : Type} {u v w : RSt}
theorem rcq_rf : rcq u u := ⟨fun _ _ => rfl, fun _ _ => rfl, fun _ _ => rfl⟩
theorem rcq_tr (h : rcq u v) (h2 : rcq v w) : rcq u w := ⟨fun k hk => (h2.1 k hk).trans (h.1 k hk), fun k hk => (h2.2.1 k hk).trans (h.2.1 k hk), fun k hk => (h2.2.2 k hk).trans (h.2.2 k hk)⟩
theorem KYq.tr {x : Option (β × RSt)} (hx : KYq x w) (h : rcq u w) : KYq x u := fun r z e => rcq_tr h (hx r z e)
theorem KYq.p {x : Option (β × RSt)} (hx : KYq x u) : pp x (fun _ w => rcq u w) := hx
theorem fcy_sI {k : Nat} {a : Int32} (hk : k ∉ [56, 70]) (h : rcq u w) : rcq u (sI w k a) := by
  refine rcq_tr h ⟨fun j hj => ?_, fun _ _ => rfl, fun _ _ => rfl⟩
  show (if j = k then a else w.1 j) = w.1 j
  rw [if_neg (fun z => hk (by rw [← z]; exact hj))]
theorem fcy_sL {k : Nat} {a : Int64} (h : rcq u w) : rcq u (sL w k a) := h
theorem fcy_sA {k i : Nat} {a : Int32} (hk : k ∉ nY) (h : rcq u w) : rcq u (sA w k i a) := by
  refine rcq_tr h ⟨fun _ _ => rfl, fun j hj => ?_, fun _ _ => rfl⟩
  show (if j = k then upd (w.2.2.1 k) i a else w.2.2.1 j) = _
  rw [if_neg (fun z => hk (by rw [← z]; exact hj))]
theorem fcy_sB {k i : Nat} {a : Int64} (hk : k ∉ [52, 53]) (h : rcq u w) : rcq u (sB w k i a) := by
  refine rcq_tr h ⟨fun _ _ => rfl, fun _ _ => rfl, fun j hj => ?_⟩
  show (if j = k then vp_updL (w.2.2.2 k) i a else w.2.2.2 j) = _
  rw [if_neg (fun z => hk (by rw [← z]; exact hj))]
theorem KYq_some {r : β} (h : rcq u w) : KYq (some (r, w)) u := fun _ _ e => by cases e; exact h
theorem KYq_none : KYq (none : Option (β × RSt)) u := fun _ _ e => nomatch e
theorem KYq_rd {f : Nat → α} {n : Nat} {i : Int32} {k : α → Option (β × RSt)} (h : ∀ a, KYq (k a) u) : KYq (rd f n i k) u := by
  intro r z e
  have q : wp (rd f n i k) (fun r' z' => r' = r ∧ z' = z) := ⟨r, z, e, rfl, rfl⟩
  obtain ⟨r1, z1, e1, rfl, rfl⟩ := (wp_rd.mp q).2
  exact h _ _ _ e1
theorem KYq_if {c : Prop} {d : Decidable c} {a b : Option (β × RSt)} (ha : KYq a u) (hb : KYq b u) : KYq (if c then a else b) u := by
  by_cases q : c
  · rw [if_pos q]; exact ha
  · rw [if_neg q]; exact hb
theorem KYq_zr {v : Int32} {x : Option (β × RSt)} (h : KYq x u) : KYq (zr v x) u := fun r z e => h r z (zr_of e).2
theorem KYq_nz {v : Int32} {x : Option (β × RSt)} (h : KYq x u) : KYq (nz v x) u := fun r z e => h r z (nz_of e).2
theorem KYq_ok {P : Prop} {d : Decidable P} {x : Option (β × RSt)} (h : KYq x u) : KYq (ok P d x) u := fun r z e => h r z (ok_of e).2
theorem KYq_pu {x : RSt} {k : RSt → Option (β × RSt)} (h : KYq (k x) u) : KYq (pu x k) u := h
theorem KYq_wr {n : Nat} {i : Int32} {x : RSt} {k : RSt → Option (β × RSt)} (h : KYq (k x) u) : KYq (wr n i x k) u := by
  intro r z e
  have q : wp (wr n i x k) (fun r' z' => r' = r ∧ z' = z) := ⟨r, z, e, rfl, rfl⟩
  obtain ⟨r1, z1, e1, rfl, rfl⟩ := (wp_wr.mp q).2
  exact h _ _ e1
theorem KYq_bn {x : Option (α × RSt)} {k : α → RSt → Option (β × RSt)} (hx : KYq x u) (h : ∀ r w, KYq (k r w) w) : KYq (bn x k) u := by
  intro r z e
  have q : wp (bn x k) (fun r' z' => r' = r ∧ z' = z) := ⟨r, z, e, rfl, rfl⟩
  obtain ⟨r1, z1, e1, r2, z2, e2, rfl, rfl⟩ := wp_bn.mp q
  exact rcq_tr (hx _ _ e1) (h _ _ _ _ e2)
end KYqs

theorem ncy_B_bad_0 {N : Nat} {l1 : Int32} {l2 : Int32} {u : RSt}  : KYq (B_bad_0 N l1 l2 u) u := by
  unfold B_bad_0
  refine KYq_if ?_ ?_
  · skip
    refine KYq_pu ?_
    refine KYq_pu ?_
    exact KYq_some (fcy_sI (by decide) (fcy_sI (by decide) rcq_rf))
  · skip
    exact KYq_some rcq_rf
theorem ncy_F_bad {N : Nat} {l1 : Int32} {l2 : Int32} {u : RSt}  : KYq (F_bad N l1 l2 u) u := by
  unfold F_bad
  exact ncy_B_bad_0.tr rcq_rf
theorem ncy_B_wrong_0 {N : Nat} {l1 : Int32} {l2 : Int32} {l3 : Int32} {u : RSt}  : KYq (B_wrong_0 N l1 l2 l3 u) u := by
  unfold B_wrong_0
  refine KYq_if ?_ ?_
  · skip
    exact KYq_some rcq_rf
  · skip
    refine KYq_if ?_ ?_
    · skip
      exact KYq_some rcq_rf
    · skip
      refine KYq_bn (ncy_F_bad.tr rcq_rf) (fun _ _ => ?_)
      exact KYq_some rcq_rf
theorem ncy_F_wrong {N : Nat} {l1 : Int32} {l2 : Int32} {l3 : Int32} {u : RSt}  : KYq (F_wrong N l1 l2 l3 u) u := by
  unfold F_wrong
  exact ncy_B_wrong_0.tr rcq_rf
theorem ncy_B_is_0 {N : Nat} {l1 : Int32} {u : RSt}  : KYq (B_is_0 N l1 u) u := by
  unfold B_is_0
  refine KYq_if ?_ ?_
  · skip
    refine KYq_rd (fun _ => ?_)
    refine KYq_if ?_ ?_
    · skip
      exact KYq_some rcq_rf
    · skip
      exact KYq_some rcq_rf
  · skip
    exact KYq_some rcq_rf
theorem ncy_F_is {N : Nat} {l1 : Int32} {u : RSt}  : KYq (F_is N l1 u) u := by
  unfold F_is
  exact ncy_B_is_0.tr rcq_rf
theorem ncy_B_stuck_18 {N : Nat} {s1 : Int32} {u : RSt}  : KYq (B_stuck_18 N s1 u) u := by
  unfold B_stuck_18
  refine KYq_rd (fun _ => ?_)
  refine KYq_bn (ncy_F_bad.tr rcq_rf) (fun _ _ => ?_)
  exact KYq_some rcq_rf
theorem ncy_B_stuck_0 {N : Nat} {u : RSt}  : KYq (B_stuck_0 N u) u := by
  unfold B_stuck_0
  refine KYq_rd (fun _ => ?_)
  refine KYq_if ?_ ?_
  · skip
    exact ncy_B_stuck_18.tr rcq_rf
  · skip
    exact ncy_B_stuck_18.tr rcq_rf
theorem ncy_F_stuck {N : Nat} {u : RSt}  : KYq (F_stuck N u) u := by
  unfold F_stuck
  exact ncy_B_stuck_0.tr rcq_rf
theorem ncy_B_take_0 {N : Nat} {l1 : Int32} {u : RSt}  : KYq (B_take_0 N l1 u) u := by
  unfold B_take_0
  refine KYq_bn (ncy_F_is.tr rcq_rf) (fun _ _ => ?_)
  refine KYq_if ?_ ?_
  · skip
    refine KYq_bn (ncy_F_stuck.tr rcq_rf) (fun _ _ => ?_)
    exact KYq_some rcq_rf
  · skip
    refine KYq_pu ?_
    exact KYq_some (fcy_sI (by decide) rcq_rf)
theorem ncy_F_take {N : Nat} {l1 : Int32} {u : RSt}  : KYq (F_take N l1 u) u := by
  unfold F_take
  exact ncy_B_take_0.tr rcq_rf
theorem ncy_B_has_0 {N : Nat} {l1 : Int32} {u : RSt}  : KYq (B_has_0 N l1 u) u := by
  unfold B_has_0
  refine KYq_bn (ncy_F_is.tr rcq_rf) (fun _ _ => ?_)
  refine KYq_if ?_ ?_
  · skip
    refine KYq_zr ?_
    exact KYq_some rcq_rf
  · skip
    refine KYq_pu ?_
    refine KYq_zr ?_
    exact KYq_some (fcy_sI (by decide) rcq_rf)
theorem ncy_F_has {N : Nat} {l1 : Int32} {u : RSt}  : KYq (F_has N l1 u) u := by
  unfold F_has
  exact ncy_B_has_0.tr rcq_rf
theorem ncy_B_opens_0 {N : Nat} {u : RSt}  : KYq (B_opens_0 N u) u := by
  unfold B_opens_0
  refine KYq_pu ?_
  refine KYq_if ?_ ?_
  · skip
    exact KYq_some (fcy_sI (by decide) rcq_rf)
  · skip
    refine KYq_rd (fun _ => ?_)
    refine KYq_bn (ncy_F_bad.tr (fcy_sI (by decide) rcq_rf)) (fun _ _ => ?_)
    exact KYq_some rcq_rf
theorem ncy_F_opens {N : Nat} {u : RSt}  : KYq (F_opens N u) u := by
  unfold F_opens
  exact ncy_B_opens_0.tr rcq_rf
theorem ncy_B_begins_0 {N : Nat} {l1 : Int32} {u : RSt}  : KYq (B_begins_0 N l1 u) u := by
  unfold B_begins_0
  refine KYq_bn (ncy_F_is.tr rcq_rf) (fun _ _ => ?_)
  refine KYq_if ?_ ?_
  · skip
    refine KYq_bn (ncy_F_stuck.tr rcq_rf) (fun _ _ => ?_)
    exact KYq_some rcq_rf
  · skip
    refine KYq_bn (ncy_F_opens.tr rcq_rf) (fun _ _ => ?_)
    refine KYq_if ?_ ?_
    · skip
      refine KYq_pu ?_
      exact KYq_some (fcy_sI (by decide) rcq_rf)
    · skip
      exact KYq_some rcq_rf
theorem ncy_F_begins {N : Nat} {l1 : Int32} {u : RSt}  : KYq (F_begins N l1 u) u := by
  unfold F_begins
  exact ncy_B_begins_0.tr rcq_rf
theorem ncy_B_ends_0 {N : Nat} {l1 : Int32} {u : RSt}  : KYq (B_ends_0 N l1 u) u := by
  unfold B_ends_0
  refine KYq_bn (ncy_F_take.tr rcq_rf) (fun _ _ => ?_)
  refine KYq_pu ?_
  exact KYq_some (fcy_sI (by decide) rcq_rf)
theorem ncy_F_ends {N : Nat} {l1 : Int32} {u : RSt}  : KYq (F_ends N l1 u) u := by
  unfold F_ends
  exact ncy_B_ends_0.tr rcq_rf
theorem ncy_B_isNumber_16 {N : Nat} {u : RSt}  : KYq (B_isNumber_16 N u) u := by
  unfold B_isNumber_16
  exact KYq_some rcq_rf
theorem ncy_B_isNumber_0 {N : Nat} {u : RSt}  : KYq (B_isNumber_0 N u) u := by
  unfold B_isNumber_0
  refine KYq_bn (ncy_F_is.tr rcq_rf) (fun _ _ => ?_)
  refine KYq_if ?_ ?_
  · skip
    refine KYq_bn (ncy_F_is.tr rcq_rf) (fun _ _ => ?_)
    refine KYq_if ?_ ?_
    · skip
      exact KYq_some rcq_rf
    · skip
      exact ncy_B_isNumber_16.tr rcq_rf
  · skip
    exact ncy_B_isNumber_16.tr rcq_rf
theorem ncy_F_isNumber {N : Nat} {u : RSt}  : KYq (F_isNumber N u) u := by
  unfold F_isNumber
  exact ncy_B_isNumber_0.tr rcq_rf
theorem ncy_B_kind_33 {N : Nat} {u : RSt}  : KYq (B_kind_33 N u) u := by
  unfold B_kind_33
  refine KYq_bn (ncy_F_stuck.tr rcq_rf) (fun _ _ => ?_)
  exact KYq_some rcq_rf
theorem ncy_B_kind_23 {N : Nat} {s0 : Int32} {u : RSt}  : KYq (B_kind_23 N s0 u) u := by
  unfold B_kind_23
  refine KYq_if ?_ ?_
  · skip
    exact ncy_B_kind_33.tr rcq_rf
  · skip
    refine KYq_if ?_ ?_
    · skip
      refine KYq_pu ?_
      exact KYq_some (fcy_sI (by decide) rcq_rf)
    · skip
      exact ncy_B_kind_33.tr rcq_rf
theorem ncy_B_kind_0 {N : Nat} {u : RSt}  : KYq (B_kind_0 N u) u := by
  unfold B_kind_0
  refine KYq_if ?_ ?_
  · skip
    refine KYq_rd (fun _ => ?_)
    exact ncy_B_kind_23.tr rcq_rf
  · skip
    exact ncy_B_kind_23.tr rcq_rf
theorem ncy_F_kind {N : Nat} {u : RSt}  : KYq (F_kind N u) u := by
  unfold F_kind
  exact ncy_B_kind_0.tr rcq_rf
theorem ncy_B_named_39 {N : Nat} {R_3 : Int64 × Int64 × Int32 × RSt → Option (Int32 × RSt)} {l1 : Int64} {l3 : Int64} {l5 : Int32} {u : RSt} (h_R_3 : ∀ a, KYq (R_3 a) a.2.2.2) : KYq (B_named_39 N R_3 l1 l3 l5 u) u := by
  unfold B_named_39
  exact (h_R_3 _).tr rcq_rf
theorem ncy_B_named_3 {N : Nat} {R_3 : Int64 × Int64 × Int32 × RSt → Option (Int32 × RSt)} {l1 : Int64} {l3 : Int64} {l5 : Int32} {u : RSt} (h_R_3 : ∀ a, KYq (R_3 a) a.2.2.2) : KYq (B_named_3 N R_3 l1 l3 l5 u) u := by
  unfold B_named_3
  refine KYq_if ?_ ?_
  · skip
    exact KYq_some rcq_rf
  · skip
    refine KYq_rd (fun _ => ?_)
    refine KYq_if ?_ ?_
    · skip
      refine KYq_rd (fun _ => ?_)
      refine KYq_if ?_ ?_
      · skip
        exact KYq_some rcq_rf
      · skip
        exact (ncy_B_named_39 h_R_3).tr rcq_rf
    · skip
      exact (ncy_B_named_39 h_R_3).tr rcq_rf
theorem ncy_LP_named_3 {N : Nat}  (n : Nat) : ∀ a : Int64 × Int64 × Int32 × RSt, KYq (LP_named_3 N n a) a.2.2.2 := by
  induction n with
  | zero => exact fun a r z e => by have e : (none : Option _) = some (r, z) := e; cases e
  | succ n ih =>
    intro a
    show KYq (B_named_3 N (LP_named_3 N n) a.1 a.2.1 a.2.2.1 a.2.2.2) a.2.2.2
    exact ncy_B_named_3 ih
theorem ncy_B_named_0 {N : Nat} {l1 : Int64} {l3 : Int64} {u : RSt}  : KYq (B_named_0 N l1 l3 u) u := by
  unfold B_named_0
  exact (ncy_LP_named_3  _ _).tr rcq_rf
theorem ncy_F_named {N : Nat} {l1 : Int64} {l3 : Int64} {u : RSt}  : KYq (F_named N l1 l3 u) u := by
  unfold F_named
  exact ncy_B_named_0.tr rcq_rf
theorem ncy_B_slotOf_82 {N : Nat} {R_6 : Int64 × Int64 × Int32 × RSt → Option (Int32 × RSt)} {l1 : Int64} {l3 : Int64} {l5 : Int32} {u : RSt} (h_R_6 : ∀ a, KYq (R_6 a) a.2.2.2) : KYq (B_slotOf_82 N R_6 l1 l3 l5 u) u := by
  unfold B_slotOf_82
  exact (h_R_6 _).tr rcq_rf
theorem ncy_B_slotOf_6 {N : Nat} {R_6 : Int64 × Int64 × Int32 × RSt → Option (Int32 × RSt)} {l1 : Int64} {l3 : Int64} {l5 : Int32} {u : RSt} (h_R_6 : ∀ a, KYq (R_6 a) a.2.2.2) : KYq (B_slotOf_6 N R_6 l1 l3 l5 u) u := by
  unfold B_slotOf_6
  refine KYq_if ?_ ?_
  · skip
    exact KYq_some rcq_rf
  · skip
    refine KYq_rd (fun _ => ?_)
    refine KYq_if ?_ ?_
    · skip
      exact KYq_some rcq_rf
    · skip
      refine KYq_rd (fun _ => ?_)
      refine KYq_if ?_ ?_
      · skip
        refine KYq_rd (fun _ => ?_)
        refine KYq_if ?_ ?_
        · skip
          exact KYq_some rcq_rf
        · skip
          exact (ncy_B_slotOf_82 h_R_6).tr rcq_rf
      · skip
        exact (ncy_B_slotOf_82 h_R_6).tr rcq_rf
theorem ncy_LP_slotOf_6 {N : Nat}  (n : Nat) : ∀ a : Int64 × Int64 × Int32 × RSt, KYq (LP_slotOf_6 N n a) a.2.2.2 := by
  induction n with
  | zero => exact fun a r z e => by have e : (none : Option _) = some (r, z) := e; cases e
  | succ n ih =>
    intro a
    show KYq (B_slotOf_6 N (LP_slotOf_6 N n) a.1 a.2.1 a.2.2.1 a.2.2.2) a.2.2.2
    exact ncy_B_slotOf_6 ih
theorem ncy_B_slotOf_0 {N : Nat} {l1 : Int64} {l3 : Int64} {u : RSt}  : KYq (B_slotOf_0 N l1 l3 u) u := by
  unfold B_slotOf_0
  exact (ncy_LP_slotOf_6  _ _).tr rcq_rf
theorem ncy_F_slotOf {N : Nat} {l1 : Int64} {l3 : Int64} {u : RSt}  : KYq (F_slotOf N l1 l3 u) u := by
  unfold F_slotOf
  exact ncy_B_slotOf_0.tr rcq_rf
theorem ncy_B_own_0 {N : Nat} {l1 : Int32} {u : RSt}  : KYq (B_own_0 N l1 u) u := by
  unfold B_own_0
  refine KYq_if ?_ ?_
  · skip
    exact KYq_some rcq_rf
  · skip
    refine KYq_rd (fun _ => ?_)
    refine KYq_rd (fun _ => ?_)
    refine KYq_bn (ncy_F_slotOf.tr rcq_rf) (fun _ _ => ?_)
    refine KYq_if ?_ ?_
    · skip
      refine KYq_rd (fun _ => ?_)
      refine KYq_rd (fun _ => ?_)
      refine KYq_bn (ncy_F_named.tr rcq_rf) (fun _ _ => ?_)
      refine KYq_if ?_ ?_
      · skip
        exact KYq_some rcq_rf
      · skip
        refine KYq_rd (fun _ => ?_)
        refine KYq_if ?_ ?_
        · skip
          refine KYq_rd (fun _ => ?_)
          exact KYq_some rcq_rf
        · skip
          exact KYq_some rcq_rf
    · skip
      exact KYq_some rcq_rf
theorem ncy_F_own {N : Nat} {l1 : Int32} {u : RSt}  : KYq (F_own N l1 u) u := by
  unfold F_own
  exact ncy_B_own_0.tr rcq_rf
theorem ncy_B_telling_65 {N : Nat} {l1 : Int32} {l2 : Int32} {s1 : Int32} {u : RSt}  : KYq (B_telling_65 N l1 l2 s1 u) u := by
  unfold B_telling_65
  refine KYq_rd (fun _ => ?_)
  refine KYq_bn (ncy_F_wrong.tr rcq_rf) (fun _ _ => ?_)
  refine KYq_if ?_ ?_
  · skip
    exact KYq_some rcq_rf
  · skip
    refine KYq_if ?_ ?_
    · skip
      refine KYq_pu ?_
      refine KYq_rd (fun _ => ?_)
      refine KYq_wr ?_
      refine KYq_rd (fun _ => ?_)
      refine KYq_wr ?_
      refine KYq_wr ?_
      refine KYq_wr ?_
      refine KYq_pu ?_
      exact KYq_some (fcy_sI (by decide) (fcy_sA (by decide) (fcy_sA (by decide) (fcy_sB (by decide) (fcy_sB (by decide) (fcy_sI (by decide) rcq_rf))))))
    · skip
      exact KYq_some rcq_rf
theorem ncy_B_telling_60 {N : Nat} {l1 : Int32} {l2 : Int32} {u : RSt}  : KYq (B_telling_60 N l1 l2 u) u := by
  unfold B_telling_60
  exact ncy_B_telling_65.tr rcq_rf
theorem ncy_B_telling_32 {N : Nat} {l1 : Int32} {l2 : Int32} {l3 : Int32} {s1 : Int32} {u : RSt}  : KYq (B_telling_32 N l1 l2 l3 s1 u) u := by
  unfold B_telling_32
  refine KYq_rd (fun _ => ?_)
  refine KYq_bn (ncy_F_wrong.tr rcq_rf) (fun _ _ => ?_)
  refine KYq_if ?_ ?_
  · skip
    exact ncy_B_telling_60.tr rcq_rf
  · skip
    refine KYq_if ?_ ?_
    · skip
      exact ncy_B_telling_65.tr rcq_rf
    · skip
      exact ncy_B_telling_60.tr rcq_rf
theorem ncy_B_telling_0 {N : Nat} {l1 : Int32} {l2 : Int32} {l3 : Int32} {u : RSt}  : KYq (B_telling_0 N l1 l2 l3 u) u := by
  unfold B_telling_0
  refine KYq_rd (fun _ => ?_)
  refine KYq_rd (fun _ => ?_)
  refine KYq_bn (ncy_F_named.tr rcq_rf) (fun _ _ => ?_)
  refine KYq_if ?_ ?_
  · skip
    exact ncy_B_telling_32.tr rcq_rf
  · skip
    exact ncy_B_telling_32.tr rcq_rf
theorem ncy_F_telling {N : Nat} {l1 : Int32} {l2 : Int32} {l3 : Int32} {u : RSt}  : KYq (F_telling N l1 l2 l3 u) u := by
  unfold F_telling
  exact ncy_B_telling_0.tr rcq_rf
theorem ncy_B_constant_86 {N : Nat} {s1 : Int64} {u : RSt}  : KYq (B_constant_86 N s1 u) u := by
  unfold B_constant_86
  refine KYq_pu ?_
  refine KYq_pu ?_
  exact KYq_some (fcy_sI (by decide) (fcy_sL rcq_rf))
theorem ncy_B_constant_28 {N : Nat} {l1 : Int32} {u : RSt}  : KYq (B_constant_28 N l1 u) u := by
  unfold B_constant_28
  refine KYq_bn (ncy_F_is.tr rcq_rf) (fun _ _ => ?_)
  refine KYq_rd (fun _ => ?_)
  refine KYq_bn (ncy_F_wrong.tr rcq_rf) (fun _ _ => ?_)
  refine KYq_if ?_ ?_
  · skip
    refine KYq_rd (fun _ => ?_)
    exact ncy_B_constant_86.tr rcq_rf
  · skip
    refine KYq_rd (fun _ => ?_)
    refine KYq_rd (fun _ => ?_)
    exact ncy_B_constant_86.tr rcq_rf
theorem ncy_B_constant_0 {N : Nat} {u : RSt}  : KYq (B_constant_0 N u) u := by
  unfold B_constant_0
  refine KYq_bn (ncy_F_has.tr rcq_rf) (fun _ _ => ?_)
  refine KYq_bn (ncy_F_isNumber.tr rcq_rf) (fun _ _ => ?_)
  refine KYq_if ?_ ?_
  · skip
    refine KYq_bn (ncy_F_is.tr rcq_rf) (fun _ _ => ?_)
    refine KYq_if ?_ ?_
    · skip
      refine KYq_bn (ncy_F_stuck.tr rcq_rf) (fun _ _ => ?_)
      exact KYq_some rcq_rf
    · skip
      exact ncy_B_constant_28.tr rcq_rf
  · skip
    exact ncy_B_constant_28.tr rcq_rf
theorem ncy_F_constant {N : Nat} {u : RSt}  : KYq (F_constant N u) u := by
  unfold F_constant
  exact ncy_B_constant_0.tr rcq_rf
theorem ncy_B_bounded_57 {N : Nat} {s1 : Int32} {u : RSt}  : KYq (B_bounded_57 N s1 u) u := by
  unfold B_bounded_57
  refine KYq_rd (fun _ => ?_)
  refine KYq_bn (ncy_F_wrong.tr rcq_rf) (fun _ _ => ?_)
  refine KYq_pu ?_
  refine KYq_rd (fun _ => ?_)
  exact KYq_some (fcy_sI (by decide) rcq_rf)
theorem ncy_B_bounded_52 {N : Nat} {u : RSt}  : KYq (B_bounded_52 N u) u := by
  unfold B_bounded_52
  exact ncy_B_bounded_57.tr rcq_rf
theorem ncy_B_bounded_0 {N : Nat} {l1 : Int32} {l2 : Int32} {u : RSt}  : KYq (B_bounded_0 N l1 l2 u) u := by
  unfold B_bounded_0
  refine KYq_bn (ncy_F_isNumber.tr rcq_rf) (fun _ _ => ?_)
  refine KYq_if ?_ ?_
  · skip
    refine KYq_bn (ncy_F_stuck.tr rcq_rf) (fun _ _ => ?_)
    exact KYq_some rcq_rf
  · skip
    refine KYq_bn (ncy_F_is.tr rcq_rf) (fun _ _ => ?_)
    refine KYq_if ?_ ?_
    · skip
      refine KYq_rd (fun _ => ?_)
      refine KYq_if ?_ ?_
      · skip
        exact ncy_B_bounded_52.tr rcq_rf
      · skip
        refine KYq_rd (fun _ => ?_)
        refine KYq_if ?_ ?_
        · skip
          exact ncy_B_bounded_57.tr rcq_rf
        · skip
          exact ncy_B_bounded_52.tr rcq_rf
    · skip
      exact ncy_B_bounded_52.tr rcq_rf
theorem ncy_F_bounded {N : Nat} {l1 : Int32} {l2 : Int32} {u : RSt}  : KYq (F_bounded N l1 l2 u) u := by
  unfold F_bounded
  exact ncy_B_bounded_0.tr rcq_rf
theorem ncy_B_local_86 {N : Nat} {s1 : Int32} {u : RSt}  : KYq (B_local_86 N s1 u) u := by
  unfold B_local_86
  refine KYq_rd (fun _ => ?_)
  refine KYq_bn (ncy_F_wrong.tr rcq_rf) (fun _ _ => ?_)
  refine KYq_if ?_ ?_
  · skip
    exact KYq_some rcq_rf
  · skip
    refine KYq_if ?_ ?_
    · skip
      refine KYq_pu ?_
      exact KYq_some (fcy_sI (by decide) rcq_rf)
    · skip
      exact KYq_some rcq_rf
theorem ncy_B_local_81 {N : Nat} {u : RSt}  : KYq (B_local_81 N u) u := by
  unfold B_local_81
  exact ncy_B_local_86.tr rcq_rf
theorem ncy_B_local_85 {N : Nat} {u : RSt}  : KYq (B_local_85 N u) u := by
  unfold B_local_85
  exact ncy_B_local_86.tr rcq_rf
theorem ncy_B_local_32 {N : Nat} {l1 : Int32} {s1 : Int32} {u : RSt}  : KYq (B_local_32 N l1 s1 u) u := by
  unfold B_local_32
  refine KYq_rd (fun _ => ?_)
  refine KYq_bn (ncy_F_wrong.tr rcq_rf) (fun _ _ => ?_)
  refine KYq_if ?_ ?_
  · skip
    exact ncy_B_local_81.tr rcq_rf
  · skip
    refine KYq_if ?_ ?_
    · skip
      exact ncy_B_local_85.tr rcq_rf
    · skip
      refine KYq_if ?_ ?_
      · skip
        exact ncy_B_local_85.tr rcq_rf
      · skip
        refine KYq_rd (fun _ => ?_)
        refine KYq_if ?_ ?_
        · skip
          exact ncy_B_local_81.tr rcq_rf
        · skip
          exact ncy_B_local_85.tr rcq_rf
theorem ncy_B_local_0 {N : Nat} {l1 : Int32} {u : RSt}  : KYq (B_local_0 N l1 u) u := by
  unfold B_local_0
  refine KYq_rd (fun _ => ?_)
  refine KYq_rd (fun _ => ?_)
  refine KYq_bn (ncy_F_slotOf.tr rcq_rf) (fun _ _ => ?_)
  refine KYq_if ?_ ?_
  · skip
    exact ncy_B_local_32.tr rcq_rf
  · skip
    exact ncy_B_local_32.tr rcq_rf
theorem ncy_F_local {N : Nat} {l1 : Int32} {u : RSt}  : KYq (F_local N l1 u) u := by
  unfold F_local
  exact ncy_B_local_0.tr rcq_rf
theorem ncy_B_addSlot_17 {N : Nat} {l1 : Int32} {l2 : Int32} {l3 : Int32} {l4 : Int32} {l5 : Int64} {s1 : Int32} {u : RSt}  : KYq (B_addSlot_17 N l1 l2 l3 l4 l5 s1 u) u := by
  unfold B_addSlot_17
  refine KYq_rd (fun _ => ?_)
  refine KYq_bn (ncy_F_wrong.tr rcq_rf) (fun _ _ => ?_)
  refine KYq_if ?_ ?_
  · skip
    exact KYq_some rcq_rf
  · skip
    refine KYq_if ?_ ?_
    · skip
      refine KYq_rd (fun _ => ?_)
      refine KYq_wr ?_
      refine KYq_wr ?_
      refine KYq_wr ?_
      refine KYq_wr ?_
      refine KYq_wr ?_
      refine KYq_rd (fun _ => ?_)
      refine KYq_wr ?_
      refine KYq_rd (fun _ => ?_)
      refine KYq_wr ?_
      refine KYq_rd (fun _ => ?_)
      refine KYq_wr ?_
      refine KYq_pu ?_
      refine KYq_rd (fun _ => ?_)
      refine KYq_wr ?_
      refine KYq_wr ?_
      exact KYq_some (fcy_sA (by decide) (fcy_sA (by decide) (fcy_sI (by decide) (fcy_sA (by decide) (fcy_sB (by decide) (fcy_sB (by decide) (fcy_sB (by decide) (fcy_sA (by decide) (fcy_sA (by decide) (fcy_sA (by decide) (fcy_sA (by decide) rcq_rf)))))))))))
    · skip
      exact KYq_some rcq_rf
theorem ncy_B_addSlot_0 {N : Nat} {l1 : Int32} {l2 : Int32} {l3 : Int32} {l4 : Int32} {l5 : Int64} {u : RSt}  : KYq (B_addSlot_0 N l1 l2 l3 l4 l5 u) u := by
  unfold B_addSlot_0
  refine KYq_if ?_ ?_
  · skip
    exact ncy_B_addSlot_17.tr rcq_rf
  · skip
    exact ncy_B_addSlot_17.tr rcq_rf
theorem ncy_F_addSlot {N : Nat} {l1 : Int32} {l2 : Int32} {l3 : Int32} {l4 : Int32} {l5 : Int64} {u : RSt}  : KYq (F_addSlot N l1 l2 l3 l4 l5 u) u := by
  unfold F_addSlot
  exact ncy_B_addSlot_0.tr rcq_rf
theorem ncy_B_addVariable_219 {N : Nat} {s1 : Int32} {s2 : Int32} {u : RSt}  : KYq (B_addVariable_219 N s1 s2 u) u := by
  unfold B_addVariable_219
  refine KYq_pu ?_
  refine KYq_rd (fun _ => ?_)
  refine KYq_wr ?_
  exact KYq_some (fcy_sA (by decide) (fcy_sI (by decide) rcq_rf))
theorem ncy_B_addVariable_202 {N : Nat} {l3 : Int32} {l4 : Int32} {s1 : Int32} {s2 : Int32} {u : RSt}  : KYq (B_addVariable_202 N l3 l4 s1 s2 u) u := by
  unfold B_addVariable_202
  refine KYq_wr ?_
  refine KYq_if ?_ ?_
  · skip
    exact ncy_B_addVariable_219.tr (fcy_sA (by decide) rcq_rf)
  · skip
    exact ncy_B_addVariable_219.tr (fcy_sA (by decide) rcq_rf)
theorem ncy_B_addVariable_51 {N : Nat} {l1 : Int32} {l2 : Int32} {l3 : Int32} {l4 : Int32} {l5 : Int32} {l6 : Int32} {l7 : Int64} {u : RSt}  : KYq (B_addVariable_51 N l1 l2 l3 l4 l5 l6 l7 u) u := by
  unfold B_addVariable_51
  refine KYq_if ?_ ?_
  · skip
    exact KYq_some rcq_rf
  · skip
    refine KYq_if ?_ ?_
    · skip
      refine KYq_rd (fun _ => ?_)
      refine KYq_wr ?_
      refine KYq_wr ?_
      refine KYq_wr ?_
      refine KYq_wr ?_
      refine KYq_wr ?_
      refine KYq_wr ?_
      refine KYq_rd (fun _ => ?_)
      refine KYq_wr ?_
      refine KYq_rd (fun _ => ?_)
      refine KYq_wr ?_
      refine KYq_if ?_ ?_
      · skip
        refine KYq_if ?_ ?_
        · skip
          exact ncy_B_addVariable_202.tr (fcy_sB (by decide) (fcy_sB (by decide) (fcy_sB (by decide) (fcy_sA (by decide) (fcy_sA (by decide) (fcy_sA (by decide) (fcy_sA (by decide) (fcy_sA (by decide) rcq_rf))))))))
        · skip
          exact ncy_B_addVariable_202.tr (fcy_sB (by decide) (fcy_sB (by decide) (fcy_sB (by decide) (fcy_sA (by decide) (fcy_sA (by decide) (fcy_sA (by decide) (fcy_sA (by decide) (fcy_sA (by decide) rcq_rf))))))))
      · skip
        exact ncy_B_addVariable_202.tr (fcy_sB (by decide) (fcy_sB (by decide) (fcy_sB (by decide) (fcy_sA (by decide) (fcy_sA (by decide) (fcy_sA (by decide) (fcy_sA (by decide) (fcy_sA (by decide) rcq_rf))))))))
    · skip
      exact KYq_some rcq_rf
theorem ncy_B_addVariable_41 {N : Nat} {l1 : Int32} {l2 : Int32} {l3 : Int32} {l4 : Int32} {l5 : Int32} {l6 : Int32} {l7 : Int64} {s1 : Int32} {u : RSt}  : KYq (B_addVariable_41 N l1 l2 l3 l4 l5 l6 l7 s1 u) u := by
  unfold B_addVariable_41
  refine KYq_rd (fun _ => ?_)
  refine KYq_bn (ncy_F_wrong.tr rcq_rf) (fun _ _ => ?_)
  exact ncy_B_addVariable_51.tr rcq_rf
theorem ncy_B_addVariable_0 {N : Nat} {l1 : Int32} {l2 : Int32} {l3 : Int32} {l4 : Int32} {l5 : Int32} {l6 : Int32} {l7 : Int64} {u : RSt}  : KYq (B_addVariable_0 N l1 l2 l3 l4 l5 l6 l7 u) u := by
  unfold B_addVariable_0
  refine KYq_if ?_ ?_
  · skip
    exact ncy_B_addVariable_51.tr rcq_rf
  · skip
    refine KYq_if ?_ ?_
    · skip
      exact ncy_B_addVariable_51.tr rcq_rf
    · skip
      refine KYq_rd (fun _ => ?_)
      refine KYq_wr ?_
      refine KYq_rd (fun _ => ?_)
      refine KYq_if ?_ ?_
      · skip
        exact ncy_B_addVariable_41.tr (fcy_sA (by decide) rcq_rf)
      · skip
        exact ncy_B_addVariable_41.tr (fcy_sA (by decide) rcq_rf)
theorem ncy_F_addVariable {N : Nat} {l1 : Int32} {l2 : Int32} {l3 : Int32} {l4 : Int32} {l5 : Int32} {l6 : Int32} {l7 : Int64} {u : RSt}  : KYq (F_addVariable N l1 l2 l3 l4 l5 l6 l7 u) u := by
  unfold F_addVariable
  exact ncy_B_addVariable_0.tr rcq_rf
theorem ncy_B_one_150 {N : Nat} {l1 : Int32} {l2 : Int32} {l3 : Int32} {l4 : Int32} {l5 : Int32} {l6 : Int32} {l7 : Int64} {u : RSt}  : KYq (B_one_150 N l1 l2 l3 l4 l5 l6 l7 u) u := by
  unfold B_one_150
  refine KYq_if ?_ ?_
  · skip
    refine KYq_bn (ncy_F_addVariable.tr rcq_rf) (fun _ _ => ?_)
    exact KYq_some rcq_rf
  · skip
    refine KYq_bn (ncy_F_addSlot.tr rcq_rf) (fun _ _ => ?_)
    exact KYq_some rcq_rf
theorem ncy_B_one_135 {N : Nat} {l1 : Int32} {l2 : Int32} {l3 : Int32} {l4 : Int32} {l5 : Int32} {l6 : Int32} {l7 : Int64} {s1 : Int32} {u : RSt}  : KYq (B_one_135 N l1 l2 l3 l4 l5 l6 l7 s1 u) u := by
  unfold B_one_135
  refine KYq_rd (fun _ => ?_)
  refine KYq_bn (ncy_F_wrong.tr rcq_rf) (fun _ _ => ?_)
  exact ncy_B_one_150.tr rcq_rf
theorem ncy_B_one_97 {N : Nat} {l1 : Int32} {l2 : Int32} {l3 : Int32} {l4 : Int32} {l5 : Int32} {l6 : Int32} {u : RSt}  : KYq (B_one_97 N l1 l2 l3 l4 l5 l6 u) u := by
  unfold B_one_97
  refine KYq_bn (ncy_F_has.tr rcq_rf) (fun _ _ => ?_)
  refine KYq_if ?_ ?_
  · skip
    exact ncy_B_one_150.tr rcq_rf
  · skip
    refine KYq_bn (ncy_F_constant.tr rcq_rf) (fun _ _ => ?_)
    refine KYq_if ?_ ?_
    · skip
      exact ncy_B_one_135.tr rcq_rf
    · skip
      exact ncy_B_one_135.tr rcq_rf
theorem ncy_B_one_46 {N : Nat} {l1 : Int32} {l2 : Int32} {l3 : Int32} {l4 : Int32} {u : RSt}  : KYq (B_one_46 N l1 l2 l3 l4 u) u := by
  unfold B_one_46
  refine KYq_pu ?_
  refine KYq_bn (ncy_F_is.tr (fcy_sI (by decide) rcq_rf)) (fun _ _ => ?_)
  refine KYq_if ?_ ?_
  · skip
    exact ncy_B_one_97.tr rcq_rf
  · skip
    refine KYq_bn (ncy_F_begins.tr rcq_rf) (fun _ _ => ?_)
    refine KYq_bn (ncy_F_bounded.tr rcq_rf) (fun _ _ => ?_)
    refine KYq_bn (ncy_F_ends.tr rcq_rf) (fun _ _ => ?_)
    exact ncy_B_one_97.tr rcq_rf
theorem ncy_B_one_0 {N : Nat} {l1 : Int32} {l2 : Int32} {l3 : Int32} {u : RSt}  : KYq (B_one_0 N l1 l2 l3 u) u := by
  unfold B_one_0
  refine KYq_bn (ncy_F_is.tr rcq_rf) (fun _ _ => ?_)
  refine KYq_if ?_ ?_
  · skip
    refine KYq_bn (ncy_F_stuck.tr rcq_rf) (fun _ _ => ?_)
    exact KYq_some rcq_rf
  · skip
    refine KYq_if ?_ ?_
    · skip
      refine KYq_rd (fun _ => ?_)
      refine KYq_bn (ncy_F_telling.tr rcq_rf) (fun _ _ => ?_)
      exact ncy_B_one_46.tr rcq_rf
    · skip
      refine KYq_bn (ncy_F_local.tr rcq_rf) (fun _ _ => ?_)
      exact ncy_B_one_46.tr rcq_rf
theorem ncy_F_one {N : Nat} {l1 : Int32} {l2 : Int32} {l3 : Int32} {u : RSt}  : KYq (F_one N l1 l2 l3 u) u := by
  unfold F_one
  exact ncy_B_one_0.tr rcq_rf
theorem ncy_B_variables_22 {N : Nat} {R_22 : Int32 × Int32 × Int32 × RSt → Option (Int32 × RSt)} {l1 : Int32} {l2 : Int32} {l3 : Int32} {u : RSt} (h_R_22 : ∀ a, KYq (R_22 a) a.2.2.2) : KYq (B_variables_22 N R_22 l1 l2 l3 u) u := by
  unfold B_variables_22
  refine KYq_bn (ncy_F_has.tr rcq_rf) (fun _ _ => ?_)
  refine KYq_if ?_ ?_
  · skip
    refine KYq_bn (ncy_F_take.tr rcq_rf) (fun _ _ => ?_)
    exact KYq_some rcq_rf
  · skip
    refine KYq_bn (ncy_F_one.tr rcq_rf) (fun _ _ => ?_)
    exact (h_R_22 _).tr rcq_rf
theorem ncy_LP_variables_22 {N : Nat}  (n : Nat) : ∀ a : Int32 × Int32 × Int32 × RSt, KYq (LP_variables_22 N n a) a.2.2.2 := by
  induction n with
  | zero => exact fun a r z e => by have e : (none : Option _) = some (r, z) := e; cases e
  | succ n ih =>
    intro a
    show KYq (B_variables_22 N (LP_variables_22 N n) a.1 a.2.1 a.2.2.1 a.2.2.2) a.2.2.2
    exact ncy_B_variables_22 ih
theorem ncy_B_variables_0 {N : Nat} {l1 : Int32} {l2 : Int32} {u : RSt}  : KYq (B_variables_0 N l1 l2 u) u := by
  unfold B_variables_0
  refine KYq_pu ?_
  refine KYq_bn (ncy_F_kind.tr (fcy_sI (by decide) rcq_rf)) (fun _ _ => ?_)
  refine KYq_bn (ncy_F_one.tr rcq_rf) (fun _ _ => ?_)
  exact (ncy_LP_variables_22  _ _).tr rcq_rf
theorem ncy_F_variables {N : Nat} {l1 : Int32} {l2 : Int32} {u : RSt}  : KYq (F_variables N l1 l2 u) u := by
  unfold F_variables
  exact ncy_B_variables_0.tr rcq_rf
theorem ncy_B_image_0 {N : Nat} {l1 : Int32} {u : RSt}  : KYq (B_image_0 N l1 u) u := by
  unfold B_image_0
  refine KYq_pu ?_
  refine KYq_bn (ncy_F_kind.tr (fcy_sI (by decide) rcq_rf)) (fun _ _ => ?_)
  refine KYq_bn (ncy_F_is.tr rcq_rf) (fun _ _ => ?_)
  refine KYq_if ?_ ?_
  · skip
    refine KYq_bn (ncy_F_stuck.tr rcq_rf) (fun _ _ => ?_)
    exact KYq_some rcq_rf
  · skip
    refine KYq_rd (fun _ => ?_)
    refine KYq_bn (ncy_F_telling.tr rcq_rf) (fun _ _ => ?_)
    refine KYq_pu ?_
    refine KYq_bn (ncy_F_take.tr (fcy_sI (by decide) rcq_rf)) (fun _ _ => ?_)
    refine KYq_bn (ncy_F_bounded.tr rcq_rf) (fun _ _ => ?_)
    refine KYq_bn (ncy_F_take.tr rcq_rf) (fun _ _ => ?_)
    refine KYq_bn (ncy_F_addVariable.tr rcq_rf) (fun _ _ => ?_)
    exact KYq_some rcq_rf
theorem ncy_F_image {N : Nat} {l1 : Int32} {u : RSt}  : KYq (F_image N l1 u) u := by
  unfold F_image
  exact ncy_B_image_0.tr rcq_rf
theorem ncy_B_parameter_62 {N : Nat} {u : RSt}  : KYq (B_parameter_62 N u) u := by
  unfold B_parameter_62
  refine KYq_pu ?_
  exact KYq_some (fcy_sI (by decide) rcq_rf)
theorem ncy_B_parameter_0 {N : Nat} {u : RSt}  : KYq (B_parameter_0 N u) u := by
  unfold B_parameter_0
  refine KYq_bn (ncy_F_kind.tr rcq_rf) (fun _ _ => ?_)
  refine KYq_bn (ncy_F_is.tr rcq_rf) (fun _ _ => ?_)
  refine KYq_if ?_ ?_
  · skip
    refine KYq_bn (ncy_F_stuck.tr rcq_rf) (fun _ _ => ?_)
    exact KYq_some rcq_rf
  · skip
    refine KYq_bn (ncy_F_local.tr rcq_rf) (fun _ _ => ?_)
    refine KYq_bn (ncy_F_addSlot.tr rcq_rf) (fun _ _ => ?_)
    refine KYq_if ?_ ?_
    · skip
      exact ncy_B_parameter_62.tr rcq_rf
    · skip
      refine KYq_if ?_ ?_
      · skip
        refine KYq_rd (fun _ => ?_)
        refine KYq_wr ?_
        exact ncy_B_parameter_62.tr (fcy_sA (by decide) rcq_rf)
      · skip
        exact ncy_B_parameter_62.tr rcq_rf
theorem ncy_F_parameter {N : Nat} {u : RSt}  : KYq (F_parameter N u) u := by
  unfold F_parameter
  exact ncy_B_parameter_0.tr rcq_rf
theorem ncy_B_instance_158 {N : Nat} {R_50 : Int32 × Int32 × Int32 × RSt → Option (Int32 × RSt)} {l1 : Int32} {l3 : Int32} {s0 : Int32} {u : RSt} (h_R_50 : ∀ a, KYq (R_50 a) a.2.2.2) : KYq (B_instance_158 N R_50 l1 l3 s0 u) u := by
  unfold B_instance_158
  exact (h_R_50 _).tr rcq_rf
theorem ncy_B_instance_153 {N : Nat} {R_50 : Int32 × Int32 × Int32 × RSt → Option (Int32 × RSt)} {l1 : Int32} {l3 : Int32} {u : RSt} (h_R_50 : ∀ a, KYq (R_50 a) a.2.2.2) : KYq (B_instance_153 N R_50 l1 l3 u) u := by
  unfold B_instance_153
  exact (ncy_B_instance_158 h_R_50).tr rcq_rf
theorem ncy_B_instance_303 {N : Nat} {u : RSt}  : KYq (B_instance_303 N u) u := by
  unfold B_instance_303
  refine KYq_pu ?_
  exact KYq_some (fcy_sI (by decide) rcq_rf)
theorem ncy_B_instance_165 {N : Nat} {l1 : Int32} {l2 : Int32} {u : RSt}  : KYq (B_instance_165 N l1 l2 u) u := by
  unfold B_instance_165
  refine KYq_rd (fun _ => ?_)
  refine KYq_bn (ncy_F_wrong.tr rcq_rf) (fun _ _ => ?_)
  refine KYq_if ?_ ?_
  · skip
    exact ncy_B_instance_303.tr rcq_rf
  · skip
    refine KYq_if ?_ ?_
    · skip
      refine KYq_rd (fun _ => ?_)
      refine KYq_wr ?_
      refine KYq_wr ?_
      refine KYq_rd (fun _ => ?_)
      refine KYq_wr ?_
      refine KYq_rd (fun _ => ?_)
      refine KYq_wr ?_
      refine KYq_rd (fun _ => ?_)
      refine KYq_pu ?_
      refine KYq_rd (fun _ => ?_)
      refine KYq_wr ?_
      exact ncy_B_instance_303.tr (fcy_sA (by decide) (fcy_sI (by decide) (fcy_sB (by decide) (fcy_sB (by decide) (fcy_sA (by decide) (fcy_sA (by decide) rcq_rf))))))
    · skip
      exact ncy_B_instance_303.tr rcq_rf
theorem ncy_B_instance_50 {N : Nat} {R_50 : Int32 × Int32 × Int32 × RSt → Option (Int32 × RSt)} {l1 : Int32} {l2 : Int32} {l3 : Int32} {u : RSt} (h_R_50 : ∀ a, KYq (R_50 a) a.2.2.2) : KYq (B_instance_50 N R_50 l1 l2 l3 u) u := by
  unfold B_instance_50
  refine KYq_if ?_ ?_
  · skip
    exact ncy_B_instance_165.tr rcq_rf
  · skip
    refine KYq_if ?_ ?_
    · skip
      refine KYq_rd (fun _ => ?_)
      refine KYq_if ?_ ?_
      · skip
        exact ncy_B_instance_165.tr rcq_rf
      · skip
        refine KYq_rd (fun _ => ?_)
        refine KYq_rd (fun _ => ?_)
        refine KYq_rd (fun _ => ?_)
        refine KYq_rd (fun _ => ?_)
        refine KYq_wr ?_
        refine KYq_if ?_ ?_
        · skip
          refine KYq_rd (fun _ => ?_)
          refine KYq_rd (fun _ => ?_)
          refine KYq_if ?_ ?_
          · skip
            exact (ncy_B_instance_158 h_R_50).tr (fcy_sA (by decide) rcq_rf)
          · skip
            exact (ncy_B_instance_153 h_R_50).tr (fcy_sA (by decide) rcq_rf)
        · skip
          exact (ncy_B_instance_153 h_R_50).tr (fcy_sA (by decide) rcq_rf)
    · skip
      exact ncy_B_instance_165.tr rcq_rf
theorem ncy_LP_instance_50 {N : Nat}  (n : Nat) : ∀ a : Int32 × Int32 × Int32 × RSt, KYq (LP_instance_50 N n a) a.2.2.2 := by
  induction n with
  | zero => exact fun a r z e => by have e : (none : Option _) = some (r, z) := e; cases e
  | succ n ih =>
    intro a
    show KYq (B_instance_50 N (LP_instance_50 N n) a.1 a.2.1 a.2.2.1 a.2.2.2) a.2.2.2
    exact ncy_B_instance_50 ih
theorem ncy_B_instance_43 {N : Nat} {l1 : Int32} {s1 : Int32} {s2 : Int32} {s3 : Int32} {u : RSt}  : KYq (B_instance_43 N l1 s1 s2 s3 u) u := by
  unfold B_instance_43
  refine KYq_bn (ncy_F_telling.tr rcq_rf) (fun _ _ => ?_)
  exact (ncy_LP_instance_50  _ _).tr rcq_rf
theorem ncy_B_instance_0 {N : Nat} {l1 : Int32} {u : RSt}  : KYq (B_instance_0 N l1 u) u := by
  unfold B_instance_0
  refine KYq_bn (ncy_F_is.tr rcq_rf) (fun _ _ => ?_)
  refine KYq_if ?_ ?_
  · skip
    refine KYq_bn (ncy_F_stuck.tr rcq_rf) (fun _ _ => ?_)
    exact KYq_some rcq_rf
  · skip
    refine KYq_rd (fun _ => ?_)
    refine KYq_rd (fun _ => ?_)
    refine KYq_if ?_ ?_
    · skip
      exact ncy_B_instance_43.tr rcq_rf
    · skip
      exact ncy_B_instance_43.tr rcq_rf
theorem ncy_F_instance {N : Nat} {l1 : Int32} {u : RSt}  : KYq (F_instance N l1 u) u := by
  unfold F_instance
  exact ncy_B_instance_0.tr rcq_rf
theorem ncy_B_use_68 {N : Nat} {R_68 : Int32 × RSt → Option (Int32 × RSt)} {l1 : Int32} {u : RSt} (h_R_68 : ∀ a, KYq (R_68 a) a.2) : KYq (B_use_68 N R_68 l1 u) u := by
  unfold B_use_68
  refine KYq_bn (ncy_F_has.tr rcq_rf) (fun _ _ => ?_)
  refine KYq_if ?_ ?_
  · skip
    refine KYq_bn (ncy_F_take.tr rcq_rf) (fun _ _ => ?_)
    exact KYq_some rcq_rf
  · skip
    refine KYq_bn (ncy_F_instance.tr rcq_rf) (fun _ _ => ?_)
    exact (h_R_68 _).tr rcq_rf
theorem ncy_LP_use_68 {N : Nat}  (n : Nat) : ∀ a : Int32 × RSt, KYq (LP_use_68 N n a) a.2 := by
  induction n with
  | zero => exact fun a r z e => by have e : (none : Option _) = some (r, z) := e; cases e
  | succ n ih =>
    intro a
    show KYq (B_use_68 N (LP_use_68 N n) a.1 a.2) a.2
    exact ncy_B_use_68 ih
theorem ncy_B_use_40 {N : Nat} {l1 : Int32} {s1 : Int32} {u : RSt}  : KYq (B_use_40 N l1 s1 u) u := by
  unfold B_use_40
  refine KYq_rd (fun _ => ?_)
  refine KYq_bn (ncy_F_wrong.tr rcq_rf) (fun _ _ => ?_)
  refine KYq_pu ?_
  refine KYq_bn (ncy_F_instance.tr (fcy_sI (by decide) rcq_rf)) (fun _ _ => ?_)
  exact (ncy_LP_use_68  _ _).tr rcq_rf
theorem ncy_B_use_0 {N : Nat} {u : RSt}  : KYq (B_use_0 N u) u := by
  unfold B_use_0
  refine KYq_pu ?_
  refine KYq_bn (ncy_F_is.tr (fcy_sI (by decide) rcq_rf)) (fun _ _ => ?_)
  refine KYq_if ?_ ?_
  · skip
    refine KYq_bn (ncy_F_stuck.tr rcq_rf) (fun _ _ => ?_)
    exact KYq_some rcq_rf
  · skip
    refine KYq_bn (ncy_F_own.tr rcq_rf) (fun _ _ => ?_)
    refine KYq_if ?_ ?_
    · skip
      exact ncy_B_use_40.tr rcq_rf
    · skip
      exact ncy_B_use_40.tr rcq_rf
theorem ncy_F_use {N : Nat} {u : RSt}  : KYq (F_use N u) u := by
  unfold F_use
  exact ncy_B_use_0.tr rcq_rf
/-! What leaves the row of parameters (30). -/
def r30 (u w : RSt) : Prop := w.2.2.1 30 = u.2.2.1 30
def K30 {β : Type} (x : Option (β × RSt)) (u : RSt) : Prop := ∀ r w, x = some (r, w) → r30 u w
section K30s
variable {α β γ : Type} {u v w : RSt}
theorem r30_rf : r30 u u := rfl
theorem r30_tr (h : r30 u v) (h2 : r30 v w) : r30 u w := Eq.trans (show w.2.2.1 30 = v.2.2.1 30 from h2) h
theorem K30.tr {x : Option (β × RSt)} (hx : K30 x w) (h : r30 u w) : K30 x u := fun r z e => r30_tr h (hx r z e)
theorem f30_sI {k : Nat} {a : Int32} (h : r30 u w) : r30 u (sI w k a) := h
theorem f30_sL {k : Nat} {a : Int64} (h : r30 u w) : r30 u (sL w k a) := h
theorem f30_sA {k i : Nat} {a : Int32} (hk : k ≠ 30) (h : r30 u w) : r30 u (sA w k i a) := by
  refine r30_tr h ?_
  show (if 30 = k then upd (w.2.2.1 k) i a else w.2.2.1 30) = w.2.2.1 30
  rw [if_neg (fun z => hk z.symm)]
theorem f30_sB {k i : Nat} {a : Int64} (h : r30 u w) : r30 u (sB w k i a) := h
theorem K30_some {r : β} (h : r30 u w) : K30 (some (r, w)) u := fun _ _ e => by cases e; exact h
theorem K30_none : K30 (none : Option (β × RSt)) u := fun _ _ e => nomatch e
theorem K30_rd {f : Nat → α} {n : Nat} {i : Int32} {k : α → Option (β × RSt)} (h : ∀ a, K30 (k a) u) : K30 (rd f n i k) u := by
  intro r z e
  have q : wp (rd f n i k) (fun r' z' => r' = r ∧ z' = z) := ⟨r, z, e, rfl, rfl⟩
  obtain ⟨r1, z1, e1, rfl, rfl⟩ := (wp_rd.mp q).2
  exact h _ _ _ e1
theorem K30_if {c : Prop} {d : Decidable c} {a b : Option (β × RSt)} (ha : K30 a u) (hb : K30 b u) : K30 (if c then a else b) u := by
  by_cases q : c
  · rw [if_pos q]; exact ha
  · rw [if_neg q]; exact hb
theorem K30_zr {v : Int32} {x : Option (β × RSt)} (h : K30 x u) : K30 (zr v x) u := fun r z e => h r z (zr_of e).2
theorem K30_nz {v : Int32} {x : Option (β × RSt)} (h : K30 x u) : K30 (nz v x) u := fun r z e => h r z (nz_of e).2
theorem K30_ok {P : Prop} {d : Decidable P} {x : Option (β × RSt)} (h : K30 x u) : K30 (ok P d x) u := fun r z e => h r z (ok_of e).2
theorem K30_pu {x : RSt} {k : RSt → Option (β × RSt)} (h : K30 (k x) u) : K30 (pu x k) u := h
theorem K30_wr {n : Nat} {i : Int32} {x : RSt} {k : RSt → Option (β × RSt)} (h : K30 (k x) u) : K30 (wr n i x k) u := by
  intro r z e
  have q : wp (wr n i x k) (fun r' z' => r' = r ∧ z' = z) := ⟨r, z, e, rfl, rfl⟩
  obtain ⟨r1, z1, e1, rfl, rfl⟩ := (wp_wr.mp q).2
  exact h _ _ e1
theorem K30_bn {x : Option (α × RSt)} {k : α → RSt → Option (β × RSt)} (hx : K30 x u) (h : ∀ r w, K30 (k r w) w) : K30 (bn x k) u := by
  intro r z e
  have q : wp (bn x k) (fun r' z' => r' = r ∧ z' = z) := ⟨r, z, e, rfl, rfl⟩
  obtain ⟨r1, z1, e1, r2, z2, e2, rfl, rfl⟩ := wp_bn.mp q
  exact r30_tr (hx _ _ e1) (h _ _ _ _ e2)
end K30s

theorem n30_B_bad_0 {N : Nat} {l1 : Int32} {l2 : Int32} {u : RSt}  : K30 (B_bad_0 N l1 l2 u) u := by
  unfold B_bad_0
  refine K30_if ?_ ?_
  · skip
    refine K30_pu ?_
    refine K30_pu ?_
    exact K30_some (f30_sI (f30_sI r30_rf))
  · skip
    exact K30_some r30_rf
theorem n30_F_bad {N : Nat} {l1 : Int32} {l2 : Int32} {u : RSt}  : K30 (F_bad N l1 l2 u) u := by
  unfold F_bad
  exact n30_B_bad_0.tr r30_rf
theorem n30_B_wrong_0 {N : Nat} {l1 : Int32} {l2 : Int32} {l3 : Int32} {u : RSt}  : K30 (B_wrong_0 N l1 l2 l3 u) u := by
  unfold B_wrong_0
  refine K30_if ?_ ?_
  · skip
    exact K30_some r30_rf
  · skip
    refine K30_if ?_ ?_
    · skip
      exact K30_some r30_rf
    · skip
      refine K30_bn (n30_F_bad.tr r30_rf) (fun _ _ => ?_)
      exact K30_some r30_rf
theorem n30_F_wrong {N : Nat} {l1 : Int32} {l2 : Int32} {l3 : Int32} {u : RSt}  : K30 (F_wrong N l1 l2 l3 u) u := by
  unfold F_wrong
  exact n30_B_wrong_0.tr r30_rf
theorem n30_B_is_0 {N : Nat} {l1 : Int32} {u : RSt}  : K30 (B_is_0 N l1 u) u := by
  unfold B_is_0
  refine K30_if ?_ ?_
  · skip
    refine K30_rd (fun _ => ?_)
    refine K30_if ?_ ?_
    · skip
      exact K30_some r30_rf
    · skip
      exact K30_some r30_rf
  · skip
    exact K30_some r30_rf
theorem n30_F_is {N : Nat} {l1 : Int32} {u : RSt}  : K30 (F_is N l1 u) u := by
  unfold F_is
  exact n30_B_is_0.tr r30_rf
theorem n30_B_stuck_18 {N : Nat} {s1 : Int32} {u : RSt}  : K30 (B_stuck_18 N s1 u) u := by
  unfold B_stuck_18
  refine K30_rd (fun _ => ?_)
  refine K30_bn (n30_F_bad.tr r30_rf) (fun _ _ => ?_)
  exact K30_some r30_rf
theorem n30_B_stuck_0 {N : Nat} {u : RSt}  : K30 (B_stuck_0 N u) u := by
  unfold B_stuck_0
  refine K30_rd (fun _ => ?_)
  refine K30_if ?_ ?_
  · skip
    exact n30_B_stuck_18.tr r30_rf
  · skip
    exact n30_B_stuck_18.tr r30_rf
theorem n30_F_stuck {N : Nat} {u : RSt}  : K30 (F_stuck N u) u := by
  unfold F_stuck
  exact n30_B_stuck_0.tr r30_rf
theorem n30_B_take_0 {N : Nat} {l1 : Int32} {u : RSt}  : K30 (B_take_0 N l1 u) u := by
  unfold B_take_0
  refine K30_bn (n30_F_is.tr r30_rf) (fun _ _ => ?_)
  refine K30_if ?_ ?_
  · skip
    refine K30_bn (n30_F_stuck.tr r30_rf) (fun _ _ => ?_)
    exact K30_some r30_rf
  · skip
    refine K30_pu ?_
    exact K30_some (f30_sI r30_rf)
theorem n30_F_take {N : Nat} {l1 : Int32} {u : RSt}  : K30 (F_take N l1 u) u := by
  unfold F_take
  exact n30_B_take_0.tr r30_rf
theorem n30_B_has_0 {N : Nat} {l1 : Int32} {u : RSt}  : K30 (B_has_0 N l1 u) u := by
  unfold B_has_0
  refine K30_bn (n30_F_is.tr r30_rf) (fun _ _ => ?_)
  refine K30_if ?_ ?_
  · skip
    refine K30_zr ?_
    exact K30_some r30_rf
  · skip
    refine K30_pu ?_
    refine K30_zr ?_
    exact K30_some (f30_sI r30_rf)
theorem n30_F_has {N : Nat} {l1 : Int32} {u : RSt}  : K30 (F_has N l1 u) u := by
  unfold F_has
  exact n30_B_has_0.tr r30_rf
theorem n30_B_opens_0 {N : Nat} {u : RSt}  : K30 (B_opens_0 N u) u := by
  unfold B_opens_0
  refine K30_pu ?_
  refine K30_if ?_ ?_
  · skip
    exact K30_some (f30_sI r30_rf)
  · skip
    refine K30_rd (fun _ => ?_)
    refine K30_bn (n30_F_bad.tr (f30_sI r30_rf)) (fun _ _ => ?_)
    exact K30_some r30_rf
theorem n30_F_opens {N : Nat} {u : RSt}  : K30 (F_opens N u) u := by
  unfold F_opens
  exact n30_B_opens_0.tr r30_rf
theorem n30_B_begins_0 {N : Nat} {l1 : Int32} {u : RSt}  : K30 (B_begins_0 N l1 u) u := by
  unfold B_begins_0
  refine K30_bn (n30_F_is.tr r30_rf) (fun _ _ => ?_)
  refine K30_if ?_ ?_
  · skip
    refine K30_bn (n30_F_stuck.tr r30_rf) (fun _ _ => ?_)
    exact K30_some r30_rf
  · skip
    refine K30_bn (n30_F_opens.tr r30_rf) (fun _ _ => ?_)
    refine K30_if ?_ ?_
    · skip
      refine K30_pu ?_
      exact K30_some (f30_sI r30_rf)
    · skip
      exact K30_some r30_rf
theorem n30_F_begins {N : Nat} {l1 : Int32} {u : RSt}  : K30 (F_begins N l1 u) u := by
  unfold F_begins
  exact n30_B_begins_0.tr r30_rf
theorem n30_B_ends_0 {N : Nat} {l1 : Int32} {u : RSt}  : K30 (B_ends_0 N l1 u) u := by
  unfold B_ends_0
  refine K30_bn (n30_F_take.tr r30_rf) (fun _ _ => ?_)
  refine K30_pu ?_
  exact K30_some (f30_sI r30_rf)
theorem n30_F_ends {N : Nat} {l1 : Int32} {u : RSt}  : K30 (F_ends N l1 u) u := by
  unfold F_ends
  exact n30_B_ends_0.tr r30_rf
theorem n30_B_isNumber_16 {N : Nat} {u : RSt}  : K30 (B_isNumber_16 N u) u := by
  unfold B_isNumber_16
  exact K30_some r30_rf
theorem n30_B_isNumber_0 {N : Nat} {u : RSt}  : K30 (B_isNumber_0 N u) u := by
  unfold B_isNumber_0
  refine K30_bn (n30_F_is.tr r30_rf) (fun _ _ => ?_)
  refine K30_if ?_ ?_
  · skip
    refine K30_bn (n30_F_is.tr r30_rf) (fun _ _ => ?_)
    refine K30_if ?_ ?_
    · skip
      exact K30_some r30_rf
    · skip
      exact n30_B_isNumber_16.tr r30_rf
  · skip
    exact n30_B_isNumber_16.tr r30_rf
theorem n30_F_isNumber {N : Nat} {u : RSt}  : K30 (F_isNumber N u) u := by
  unfold F_isNumber
  exact n30_B_isNumber_0.tr r30_rf
theorem n30_B_kind_33 {N : Nat} {u : RSt}  : K30 (B_kind_33 N u) u := by
  unfold B_kind_33
  refine K30_bn (n30_F_stuck.tr r30_rf) (fun _ _ => ?_)
  exact K30_some r30_rf
theorem n30_B_kind_23 {N : Nat} {s0 : Int32} {u : RSt}  : K30 (B_kind_23 N s0 u) u := by
  unfold B_kind_23
  refine K30_if ?_ ?_
  · skip
    exact n30_B_kind_33.tr r30_rf
  · skip
    refine K30_if ?_ ?_
    · skip
      refine K30_pu ?_
      exact K30_some (f30_sI r30_rf)
    · skip
      exact n30_B_kind_33.tr r30_rf
theorem n30_B_kind_0 {N : Nat} {u : RSt}  : K30 (B_kind_0 N u) u := by
  unfold B_kind_0
  refine K30_if ?_ ?_
  · skip
    refine K30_rd (fun _ => ?_)
    exact n30_B_kind_23.tr r30_rf
  · skip
    exact n30_B_kind_23.tr r30_rf
theorem n30_F_kind {N : Nat} {u : RSt}  : K30 (F_kind N u) u := by
  unfold F_kind
  exact n30_B_kind_0.tr r30_rf
theorem n30_B_named_39 {N : Nat} {R_3 : Int64 × Int64 × Int32 × RSt → Option (Int32 × RSt)} {l1 : Int64} {l3 : Int64} {l5 : Int32} {u : RSt} (h_R_3 : ∀ a, K30 (R_3 a) a.2.2.2) : K30 (B_named_39 N R_3 l1 l3 l5 u) u := by
  unfold B_named_39
  exact (h_R_3 _).tr r30_rf
theorem n30_B_named_3 {N : Nat} {R_3 : Int64 × Int64 × Int32 × RSt → Option (Int32 × RSt)} {l1 : Int64} {l3 : Int64} {l5 : Int32} {u : RSt} (h_R_3 : ∀ a, K30 (R_3 a) a.2.2.2) : K30 (B_named_3 N R_3 l1 l3 l5 u) u := by
  unfold B_named_3
  refine K30_if ?_ ?_
  · skip
    exact K30_some r30_rf
  · skip
    refine K30_rd (fun _ => ?_)
    refine K30_if ?_ ?_
    · skip
      refine K30_rd (fun _ => ?_)
      refine K30_if ?_ ?_
      · skip
        exact K30_some r30_rf
      · skip
        exact (n30_B_named_39 h_R_3).tr r30_rf
    · skip
      exact (n30_B_named_39 h_R_3).tr r30_rf
theorem n30_LP_named_3 {N : Nat}  (n : Nat) : ∀ a : Int64 × Int64 × Int32 × RSt, K30 (LP_named_3 N n a) a.2.2.2 := by
  induction n with
  | zero => exact fun a r z e => by have e : (none : Option _) = some (r, z) := e; cases e
  | succ n ih =>
    intro a
    show K30 (B_named_3 N (LP_named_3 N n) a.1 a.2.1 a.2.2.1 a.2.2.2) a.2.2.2
    exact n30_B_named_3 ih
theorem n30_B_named_0 {N : Nat} {l1 : Int64} {l3 : Int64} {u : RSt}  : K30 (B_named_0 N l1 l3 u) u := by
  unfold B_named_0
  exact (n30_LP_named_3  _ _).tr r30_rf
theorem n30_F_named {N : Nat} {l1 : Int64} {l3 : Int64} {u : RSt}  : K30 (F_named N l1 l3 u) u := by
  unfold F_named
  exact n30_B_named_0.tr r30_rf
theorem n30_B_slotOf_82 {N : Nat} {R_6 : Int64 × Int64 × Int32 × RSt → Option (Int32 × RSt)} {l1 : Int64} {l3 : Int64} {l5 : Int32} {u : RSt} (h_R_6 : ∀ a, K30 (R_6 a) a.2.2.2) : K30 (B_slotOf_82 N R_6 l1 l3 l5 u) u := by
  unfold B_slotOf_82
  exact (h_R_6 _).tr r30_rf
theorem n30_B_slotOf_6 {N : Nat} {R_6 : Int64 × Int64 × Int32 × RSt → Option (Int32 × RSt)} {l1 : Int64} {l3 : Int64} {l5 : Int32} {u : RSt} (h_R_6 : ∀ a, K30 (R_6 a) a.2.2.2) : K30 (B_slotOf_6 N R_6 l1 l3 l5 u) u := by
  unfold B_slotOf_6
  refine K30_if ?_ ?_
  · skip
    exact K30_some r30_rf
  · skip
    refine K30_rd (fun _ => ?_)
    refine K30_if ?_ ?_
    · skip
      exact K30_some r30_rf
    · skip
      refine K30_rd (fun _ => ?_)
      refine K30_if ?_ ?_
      · skip
        refine K30_rd (fun _ => ?_)
        refine K30_if ?_ ?_
        · skip
          exact K30_some r30_rf
        · skip
          exact (n30_B_slotOf_82 h_R_6).tr r30_rf
      · skip
        exact (n30_B_slotOf_82 h_R_6).tr r30_rf
theorem n30_LP_slotOf_6 {N : Nat}  (n : Nat) : ∀ a : Int64 × Int64 × Int32 × RSt, K30 (LP_slotOf_6 N n a) a.2.2.2 := by
  induction n with
  | zero => exact fun a r z e => by have e : (none : Option _) = some (r, z) := e; cases e
  | succ n ih =>
    intro a
    show K30 (B_slotOf_6 N (LP_slotOf_6 N n) a.1 a.2.1 a.2.2.1 a.2.2.2) a.2.2.2
    exact n30_B_slotOf_6 ih
theorem n30_B_slotOf_0 {N : Nat} {l1 : Int64} {l3 : Int64} {u : RSt}  : K30 (B_slotOf_0 N l1 l3 u) u := by
  unfold B_slotOf_0
  exact (n30_LP_slotOf_6  _ _).tr r30_rf
theorem n30_F_slotOf {N : Nat} {l1 : Int64} {l3 : Int64} {u : RSt}  : K30 (F_slotOf N l1 l3 u) u := by
  unfold F_slotOf
  exact n30_B_slotOf_0.tr r30_rf
theorem n30_B_telling_65 {N : Nat} {l1 : Int32} {l2 : Int32} {s1 : Int32} {u : RSt}  : K30 (B_telling_65 N l1 l2 s1 u) u := by
  unfold B_telling_65
  refine K30_rd (fun _ => ?_)
  refine K30_bn (n30_F_wrong.tr r30_rf) (fun _ _ => ?_)
  refine K30_if ?_ ?_
  · skip
    exact K30_some r30_rf
  · skip
    refine K30_if ?_ ?_
    · skip
      refine K30_pu ?_
      refine K30_rd (fun _ => ?_)
      refine K30_wr ?_
      refine K30_rd (fun _ => ?_)
      refine K30_wr ?_
      refine K30_wr ?_
      refine K30_wr ?_
      refine K30_pu ?_
      exact K30_some (f30_sI (f30_sA (by decide) (f30_sA (by decide) (f30_sB (f30_sB (f30_sI r30_rf))))))
    · skip
      exact K30_some r30_rf
theorem n30_B_telling_60 {N : Nat} {l1 : Int32} {l2 : Int32} {u : RSt}  : K30 (B_telling_60 N l1 l2 u) u := by
  unfold B_telling_60
  exact n30_B_telling_65.tr r30_rf
theorem n30_B_telling_32 {N : Nat} {l1 : Int32} {l2 : Int32} {l3 : Int32} {s1 : Int32} {u : RSt}  : K30 (B_telling_32 N l1 l2 l3 s1 u) u := by
  unfold B_telling_32
  refine K30_rd (fun _ => ?_)
  refine K30_bn (n30_F_wrong.tr r30_rf) (fun _ _ => ?_)
  refine K30_if ?_ ?_
  · skip
    exact n30_B_telling_60.tr r30_rf
  · skip
    refine K30_if ?_ ?_
    · skip
      exact n30_B_telling_65.tr r30_rf
    · skip
      exact n30_B_telling_60.tr r30_rf
theorem n30_B_telling_0 {N : Nat} {l1 : Int32} {l2 : Int32} {l3 : Int32} {u : RSt}  : K30 (B_telling_0 N l1 l2 l3 u) u := by
  unfold B_telling_0
  refine K30_rd (fun _ => ?_)
  refine K30_rd (fun _ => ?_)
  refine K30_bn (n30_F_named.tr r30_rf) (fun _ _ => ?_)
  refine K30_if ?_ ?_
  · skip
    exact n30_B_telling_32.tr r30_rf
  · skip
    exact n30_B_telling_32.tr r30_rf
theorem n30_F_telling {N : Nat} {l1 : Int32} {l2 : Int32} {l3 : Int32} {u : RSt}  : K30 (F_telling N l1 l2 l3 u) u := by
  unfold F_telling
  exact n30_B_telling_0.tr r30_rf
theorem n30_B_constant_86 {N : Nat} {s1 : Int64} {u : RSt}  : K30 (B_constant_86 N s1 u) u := by
  unfold B_constant_86
  refine K30_pu ?_
  refine K30_pu ?_
  exact K30_some (f30_sI (f30_sL r30_rf))
theorem n30_B_constant_28 {N : Nat} {l1 : Int32} {u : RSt}  : K30 (B_constant_28 N l1 u) u := by
  unfold B_constant_28
  refine K30_bn (n30_F_is.tr r30_rf) (fun _ _ => ?_)
  refine K30_rd (fun _ => ?_)
  refine K30_bn (n30_F_wrong.tr r30_rf) (fun _ _ => ?_)
  refine K30_if ?_ ?_
  · skip
    refine K30_rd (fun _ => ?_)
    exact n30_B_constant_86.tr r30_rf
  · skip
    refine K30_rd (fun _ => ?_)
    refine K30_rd (fun _ => ?_)
    exact n30_B_constant_86.tr r30_rf
theorem n30_B_constant_0 {N : Nat} {u : RSt}  : K30 (B_constant_0 N u) u := by
  unfold B_constant_0
  refine K30_bn (n30_F_has.tr r30_rf) (fun _ _ => ?_)
  refine K30_bn (n30_F_isNumber.tr r30_rf) (fun _ _ => ?_)
  refine K30_if ?_ ?_
  · skip
    refine K30_bn (n30_F_is.tr r30_rf) (fun _ _ => ?_)
    refine K30_if ?_ ?_
    · skip
      refine K30_bn (n30_F_stuck.tr r30_rf) (fun _ _ => ?_)
      exact K30_some r30_rf
    · skip
      exact n30_B_constant_28.tr r30_rf
  · skip
    exact n30_B_constant_28.tr r30_rf
theorem n30_F_constant {N : Nat} {u : RSt}  : K30 (F_constant N u) u := by
  unfold F_constant
  exact n30_B_constant_0.tr r30_rf
theorem n30_B_bounded_57 {N : Nat} {s1 : Int32} {u : RSt}  : K30 (B_bounded_57 N s1 u) u := by
  unfold B_bounded_57
  refine K30_rd (fun _ => ?_)
  refine K30_bn (n30_F_wrong.tr r30_rf) (fun _ _ => ?_)
  refine K30_pu ?_
  refine K30_rd (fun _ => ?_)
  exact K30_some (f30_sI r30_rf)
theorem n30_B_bounded_52 {N : Nat} {u : RSt}  : K30 (B_bounded_52 N u) u := by
  unfold B_bounded_52
  exact n30_B_bounded_57.tr r30_rf
theorem n30_B_bounded_0 {N : Nat} {l1 : Int32} {l2 : Int32} {u : RSt}  : K30 (B_bounded_0 N l1 l2 u) u := by
  unfold B_bounded_0
  refine K30_bn (n30_F_isNumber.tr r30_rf) (fun _ _ => ?_)
  refine K30_if ?_ ?_
  · skip
    refine K30_bn (n30_F_stuck.tr r30_rf) (fun _ _ => ?_)
    exact K30_some r30_rf
  · skip
    refine K30_bn (n30_F_is.tr r30_rf) (fun _ _ => ?_)
    refine K30_if ?_ ?_
    · skip
      refine K30_rd (fun _ => ?_)
      refine K30_if ?_ ?_
      · skip
        exact n30_B_bounded_52.tr r30_rf
      · skip
        refine K30_rd (fun _ => ?_)
        refine K30_if ?_ ?_
        · skip
          exact n30_B_bounded_57.tr r30_rf
        · skip
          exact n30_B_bounded_52.tr r30_rf
    · skip
      exact n30_B_bounded_52.tr r30_rf
theorem n30_F_bounded {N : Nat} {l1 : Int32} {l2 : Int32} {u : RSt}  : K30 (F_bounded N l1 l2 u) u := by
  unfold F_bounded
  exact n30_B_bounded_0.tr r30_rf
theorem n30_B_local_86 {N : Nat} {s1 : Int32} {u : RSt}  : K30 (B_local_86 N s1 u) u := by
  unfold B_local_86
  refine K30_rd (fun _ => ?_)
  refine K30_bn (n30_F_wrong.tr r30_rf) (fun _ _ => ?_)
  refine K30_if ?_ ?_
  · skip
    exact K30_some r30_rf
  · skip
    refine K30_if ?_ ?_
    · skip
      refine K30_pu ?_
      exact K30_some (f30_sI r30_rf)
    · skip
      exact K30_some r30_rf
theorem n30_B_local_81 {N : Nat} {u : RSt}  : K30 (B_local_81 N u) u := by
  unfold B_local_81
  exact n30_B_local_86.tr r30_rf
theorem n30_B_local_85 {N : Nat} {u : RSt}  : K30 (B_local_85 N u) u := by
  unfold B_local_85
  exact n30_B_local_86.tr r30_rf
theorem n30_B_local_32 {N : Nat} {l1 : Int32} {s1 : Int32} {u : RSt}  : K30 (B_local_32 N l1 s1 u) u := by
  unfold B_local_32
  refine K30_rd (fun _ => ?_)
  refine K30_bn (n30_F_wrong.tr r30_rf) (fun _ _ => ?_)
  refine K30_if ?_ ?_
  · skip
    exact n30_B_local_81.tr r30_rf
  · skip
    refine K30_if ?_ ?_
    · skip
      exact n30_B_local_85.tr r30_rf
    · skip
      refine K30_if ?_ ?_
      · skip
        exact n30_B_local_85.tr r30_rf
      · skip
        refine K30_rd (fun _ => ?_)
        refine K30_if ?_ ?_
        · skip
          exact n30_B_local_81.tr r30_rf
        · skip
          exact n30_B_local_85.tr r30_rf
theorem n30_B_local_0 {N : Nat} {l1 : Int32} {u : RSt}  : K30 (B_local_0 N l1 u) u := by
  unfold B_local_0
  refine K30_rd (fun _ => ?_)
  refine K30_rd (fun _ => ?_)
  refine K30_bn (n30_F_slotOf.tr r30_rf) (fun _ _ => ?_)
  refine K30_if ?_ ?_
  · skip
    exact n30_B_local_32.tr r30_rf
  · skip
    exact n30_B_local_32.tr r30_rf
theorem n30_F_local {N : Nat} {l1 : Int32} {u : RSt}  : K30 (F_local N l1 u) u := by
  unfold F_local
  exact n30_B_local_0.tr r30_rf
theorem n30_B_addSlot_17 {N : Nat} {l1 : Int32} {l2 : Int32} {l3 : Int32} {l4 : Int32} {l5 : Int64} {s1 : Int32} {u : RSt}  : K30 (B_addSlot_17 N l1 l2 l3 l4 l5 s1 u) u := by
  unfold B_addSlot_17
  refine K30_rd (fun _ => ?_)
  refine K30_bn (n30_F_wrong.tr r30_rf) (fun _ _ => ?_)
  refine K30_if ?_ ?_
  · skip
    exact K30_some r30_rf
  · skip
    refine K30_if ?_ ?_
    · skip
      refine K30_rd (fun _ => ?_)
      refine K30_wr ?_
      refine K30_wr ?_
      refine K30_wr ?_
      refine K30_wr ?_
      refine K30_wr ?_
      refine K30_rd (fun _ => ?_)
      refine K30_wr ?_
      refine K30_rd (fun _ => ?_)
      refine K30_wr ?_
      refine K30_rd (fun _ => ?_)
      refine K30_wr ?_
      refine K30_pu ?_
      refine K30_rd (fun _ => ?_)
      refine K30_wr ?_
      refine K30_wr ?_
      exact K30_some (f30_sA (by decide) (f30_sA (by decide) (f30_sI (f30_sA (by decide) (f30_sB (f30_sB (f30_sB (f30_sA (by decide) (f30_sA (by decide) (f30_sA (by decide) (f30_sA (by decide) r30_rf)))))))))))
    · skip
      exact K30_some r30_rf
theorem n30_B_addSlot_0 {N : Nat} {l1 : Int32} {l2 : Int32} {l3 : Int32} {l4 : Int32} {l5 : Int64} {u : RSt}  : K30 (B_addSlot_0 N l1 l2 l3 l4 l5 u) u := by
  unfold B_addSlot_0
  refine K30_if ?_ ?_
  · skip
    exact n30_B_addSlot_17.tr r30_rf
  · skip
    exact n30_B_addSlot_17.tr r30_rf
theorem n30_F_addSlot {N : Nat} {l1 : Int32} {l2 : Int32} {l3 : Int32} {l4 : Int32} {l5 : Int64} {u : RSt}  : K30 (F_addSlot N l1 l2 l3 l4 l5 u) u := by
  unfold F_addSlot
  exact n30_B_addSlot_0.tr r30_rf
theorem n30_B_addVariable_219 {N : Nat} {s1 : Int32} {s2 : Int32} {u : RSt}  : K30 (B_addVariable_219 N s1 s2 u) u := by
  unfold B_addVariable_219
  refine K30_pu ?_
  refine K30_rd (fun _ => ?_)
  refine K30_wr ?_
  exact K30_some (f30_sA (by decide) (f30_sI r30_rf))
theorem n30_B_addVariable_202 {N : Nat} {l3 : Int32} {l4 : Int32} {s1 : Int32} {s2 : Int32} {u : RSt}  : K30 (B_addVariable_202 N l3 l4 s1 s2 u) u := by
  unfold B_addVariable_202
  refine K30_wr ?_
  refine K30_if ?_ ?_
  · skip
    exact n30_B_addVariable_219.tr (f30_sA (by decide) r30_rf)
  · skip
    exact n30_B_addVariable_219.tr (f30_sA (by decide) r30_rf)
theorem n30_B_addVariable_51 {N : Nat} {l1 : Int32} {l2 : Int32} {l3 : Int32} {l4 : Int32} {l5 : Int32} {l6 : Int32} {l7 : Int64} {u : RSt}  : K30 (B_addVariable_51 N l1 l2 l3 l4 l5 l6 l7 u) u := by
  unfold B_addVariable_51
  refine K30_if ?_ ?_
  · skip
    exact K30_some r30_rf
  · skip
    refine K30_if ?_ ?_
    · skip
      refine K30_rd (fun _ => ?_)
      refine K30_wr ?_
      refine K30_wr ?_
      refine K30_wr ?_
      refine K30_wr ?_
      refine K30_wr ?_
      refine K30_wr ?_
      refine K30_rd (fun _ => ?_)
      refine K30_wr ?_
      refine K30_rd (fun _ => ?_)
      refine K30_wr ?_
      refine K30_if ?_ ?_
      · skip
        refine K30_if ?_ ?_
        · skip
          exact n30_B_addVariable_202.tr (f30_sB (f30_sB (f30_sB (f30_sA (by decide) (f30_sA (by decide) (f30_sA (by decide) (f30_sA (by decide) (f30_sA (by decide) r30_rf))))))))
        · skip
          exact n30_B_addVariable_202.tr (f30_sB (f30_sB (f30_sB (f30_sA (by decide) (f30_sA (by decide) (f30_sA (by decide) (f30_sA (by decide) (f30_sA (by decide) r30_rf))))))))
      · skip
        exact n30_B_addVariable_202.tr (f30_sB (f30_sB (f30_sB (f30_sA (by decide) (f30_sA (by decide) (f30_sA (by decide) (f30_sA (by decide) (f30_sA (by decide) r30_rf))))))))
    · skip
      exact K30_some r30_rf
theorem n30_B_addVariable_41 {N : Nat} {l1 : Int32} {l2 : Int32} {l3 : Int32} {l4 : Int32} {l5 : Int32} {l6 : Int32} {l7 : Int64} {s1 : Int32} {u : RSt}  : K30 (B_addVariable_41 N l1 l2 l3 l4 l5 l6 l7 s1 u) u := by
  unfold B_addVariable_41
  refine K30_rd (fun _ => ?_)
  refine K30_bn (n30_F_wrong.tr r30_rf) (fun _ _ => ?_)
  exact n30_B_addVariable_51.tr r30_rf
theorem n30_B_addVariable_0 {N : Nat} {l1 : Int32} {l2 : Int32} {l3 : Int32} {l4 : Int32} {l5 : Int32} {l6 : Int32} {l7 : Int64} {u : RSt}  : K30 (B_addVariable_0 N l1 l2 l3 l4 l5 l6 l7 u) u := by
  unfold B_addVariable_0
  refine K30_if ?_ ?_
  · skip
    exact n30_B_addVariable_51.tr r30_rf
  · skip
    refine K30_if ?_ ?_
    · skip
      exact n30_B_addVariable_51.tr r30_rf
    · skip
      refine K30_rd (fun _ => ?_)
      refine K30_wr ?_
      refine K30_rd (fun _ => ?_)
      refine K30_if ?_ ?_
      · skip
        exact n30_B_addVariable_41.tr (f30_sA (by decide) r30_rf)
      · skip
        exact n30_B_addVariable_41.tr (f30_sA (by decide) r30_rf)
theorem n30_F_addVariable {N : Nat} {l1 : Int32} {l2 : Int32} {l3 : Int32} {l4 : Int32} {l5 : Int32} {l6 : Int32} {l7 : Int64} {u : RSt}  : K30 (F_addVariable N l1 l2 l3 l4 l5 l6 l7 u) u := by
  unfold F_addVariable
  exact n30_B_addVariable_0.tr r30_rf
theorem n30_B_one_150 {N : Nat} {l1 : Int32} {l2 : Int32} {l3 : Int32} {l4 : Int32} {l5 : Int32} {l6 : Int32} {l7 : Int64} {u : RSt}  : K30 (B_one_150 N l1 l2 l3 l4 l5 l6 l7 u) u := by
  unfold B_one_150
  refine K30_if ?_ ?_
  · skip
    refine K30_bn (n30_F_addVariable.tr r30_rf) (fun _ _ => ?_)
    exact K30_some r30_rf
  · skip
    refine K30_bn (n30_F_addSlot.tr r30_rf) (fun _ _ => ?_)
    exact K30_some r30_rf
theorem n30_B_one_135 {N : Nat} {l1 : Int32} {l2 : Int32} {l3 : Int32} {l4 : Int32} {l5 : Int32} {l6 : Int32} {l7 : Int64} {s1 : Int32} {u : RSt}  : K30 (B_one_135 N l1 l2 l3 l4 l5 l6 l7 s1 u) u := by
  unfold B_one_135
  refine K30_rd (fun _ => ?_)
  refine K30_bn (n30_F_wrong.tr r30_rf) (fun _ _ => ?_)
  exact n30_B_one_150.tr r30_rf
theorem n30_B_one_97 {N : Nat} {l1 : Int32} {l2 : Int32} {l3 : Int32} {l4 : Int32} {l5 : Int32} {l6 : Int32} {u : RSt}  : K30 (B_one_97 N l1 l2 l3 l4 l5 l6 u) u := by
  unfold B_one_97
  refine K30_bn (n30_F_has.tr r30_rf) (fun _ _ => ?_)
  refine K30_if ?_ ?_
  · skip
    exact n30_B_one_150.tr r30_rf
  · skip
    refine K30_bn (n30_F_constant.tr r30_rf) (fun _ _ => ?_)
    refine K30_if ?_ ?_
    · skip
      exact n30_B_one_135.tr r30_rf
    · skip
      exact n30_B_one_135.tr r30_rf
theorem n30_B_one_46 {N : Nat} {l1 : Int32} {l2 : Int32} {l3 : Int32} {l4 : Int32} {u : RSt}  : K30 (B_one_46 N l1 l2 l3 l4 u) u := by
  unfold B_one_46
  refine K30_pu ?_
  refine K30_bn (n30_F_is.tr (f30_sI r30_rf)) (fun _ _ => ?_)
  refine K30_if ?_ ?_
  · skip
    exact n30_B_one_97.tr r30_rf
  · skip
    refine K30_bn (n30_F_begins.tr r30_rf) (fun _ _ => ?_)
    refine K30_bn (n30_F_bounded.tr r30_rf) (fun _ _ => ?_)
    refine K30_bn (n30_F_ends.tr r30_rf) (fun _ _ => ?_)
    exact n30_B_one_97.tr r30_rf
theorem n30_B_one_0 {N : Nat} {l1 : Int32} {l2 : Int32} {l3 : Int32} {u : RSt}  : K30 (B_one_0 N l1 l2 l3 u) u := by
  unfold B_one_0
  refine K30_bn (n30_F_is.tr r30_rf) (fun _ _ => ?_)
  refine K30_if ?_ ?_
  · skip
    refine K30_bn (n30_F_stuck.tr r30_rf) (fun _ _ => ?_)
    exact K30_some r30_rf
  · skip
    refine K30_if ?_ ?_
    · skip
      refine K30_rd (fun _ => ?_)
      refine K30_bn (n30_F_telling.tr r30_rf) (fun _ _ => ?_)
      exact n30_B_one_46.tr r30_rf
    · skip
      refine K30_bn (n30_F_local.tr r30_rf) (fun _ _ => ?_)
      exact n30_B_one_46.tr r30_rf
theorem n30_F_one {N : Nat} {l1 : Int32} {l2 : Int32} {l3 : Int32} {u : RSt}  : K30 (F_one N l1 l2 l3 u) u := by
  unfold F_one
  exact n30_B_one_0.tr r30_rf
theorem n30_B_variables_22 {N : Nat} {R_22 : Int32 × Int32 × Int32 × RSt → Option (Int32 × RSt)} {l1 : Int32} {l2 : Int32} {l3 : Int32} {u : RSt} (h_R_22 : ∀ a, K30 (R_22 a) a.2.2.2) : K30 (B_variables_22 N R_22 l1 l2 l3 u) u := by
  unfold B_variables_22
  refine K30_bn (n30_F_has.tr r30_rf) (fun _ _ => ?_)
  refine K30_if ?_ ?_
  · skip
    refine K30_bn (n30_F_take.tr r30_rf) (fun _ _ => ?_)
    exact K30_some r30_rf
  · skip
    refine K30_bn (n30_F_one.tr r30_rf) (fun _ _ => ?_)
    exact (h_R_22 _).tr r30_rf
theorem n30_LP_variables_22 {N : Nat}  (n : Nat) : ∀ a : Int32 × Int32 × Int32 × RSt, K30 (LP_variables_22 N n a) a.2.2.2 := by
  induction n with
  | zero => exact fun a r z e => by have e : (none : Option _) = some (r, z) := e; cases e
  | succ n ih =>
    intro a
    show K30 (B_variables_22 N (LP_variables_22 N n) a.1 a.2.1 a.2.2.1 a.2.2.2) a.2.2.2
    exact n30_B_variables_22 ih
theorem n30_B_variables_0 {N : Nat} {l1 : Int32} {l2 : Int32} {u : RSt}  : K30 (B_variables_0 N l1 l2 u) u := by
  unfold B_variables_0
  refine K30_pu ?_
  refine K30_bn (n30_F_kind.tr (f30_sI r30_rf)) (fun _ _ => ?_)
  refine K30_bn (n30_F_one.tr r30_rf) (fun _ _ => ?_)
  exact (n30_LP_variables_22  _ _).tr r30_rf
theorem n30_F_variables {N : Nat} {l1 : Int32} {l2 : Int32} {u : RSt}  : K30 (F_variables N l1 l2 u) u := by
  unfold F_variables
  exact n30_B_variables_0.tr r30_rf
/-! Making a program leaves the cells of names that S tells of. -/
def nbs (S : Nat → Nat → Prop) (u w : CSt) : Prop := ∀ m k, S m k → mI w m k = mI u m k ∧ mL w m k = mL u m k
def kb (S : Nat → Nat → Prop) (u w : CSt) : Prop := nbs S u w ∧ cR w 2 = cR u 2 ∧ (∀ p, pI w p 15 = pI u p 15) ∧ (∀ p, (pI u p 12).toInt ≤ (pI w p 12).toInt)
def KB {β : Type} (S : Nat → Nat → Prop) (x : Option (β × CSt)) (u : CSt) : Prop := ∀ r w, x = some (r, w) → kb S u w
section KBs
variable {α β γ : Type} {u v w : CSt} {S : Nat → Nat → Prop}
theorem nbs_tr (h : nbs S u v) (h2 : nbs S v w) : nbs S u w := fun m k hm => ⟨(h2 m k hm).1.trans (h m k hm).1, (h2 m k hm).2.trans (h m k hm).2⟩
theorem kb_rf : kb S u u := ⟨fun _ _ _ => ⟨rfl, rfl⟩, rfl, fun _ => rfl, fun _ => Int.le_refl _⟩
theorem kb_tr (h : kb S u v) (h2 : kb S v w) : kb S u w := ⟨nbs_tr h.1 h2.1, h2.2.1.trans h.2.1, fun p => (h2.2.2.1 p).trans (h.2.2.1 p), fun p => Int.le_trans (h.2.2.2 p) (h2.2.2.2 p)⟩
theorem KB.tr {x : Option (β × CSt)} (hx : KB S x w) (h : kb S u w) : KB S x u := fun r z e => kb_tr h (hx r z e)
theorem KB.p {x : Option (β × CSt)} (hx : KB S x u) : pq x (fun _ w => kb S u w) := hx
theorem fb_xI {k : Nat} {a : Int32} (h : kb S u w) : kb S u (xI w k a) := h
theorem fb_xL {k : Nat} {a : Int64} (h : kb S u w) : kb S u (xL w k a) := h
theorem fb_xA {k i : Nat} {a : Int32} (h : kb S u w) : kb S u (xA w k i a) := h
theorem fb_xF {k : Nat} {g : Nat → Int32} (h : kb S u w) : kb S u (xF w k g) := h
theorem fb_xB {k i : Nat} {a : Int64} (h : kb S u w) : kb S u (xB w k i a) := h
theorem fb_xG {k : Nat} {g : Nat → Int64} (h : kb S u w) : kb S u (xG w k g) := h
theorem fb_xpI {q k : Nat} {a : Int32} (hk : k ≠ 12 ∧ k ≠ 15) (h : kb S u w) : kb S u (xpI w q k a) := by
  have e : ∀ j, j ≠ k → ∀ p, pI (xpI w q k a) p j = pI w p j := by
    intro j hj p
    show (if p = q then (if j = k then a else pI w p j) else pI w p j) = _
    by_cases z : p = q
    · rw [if_pos z, if_neg hj]
    · rw [if_neg z]
  refine kb_tr h ⟨fun _ _ _ => ⟨rfl, rfl⟩, rfl, e 15 (fun z => hk.2 z.symm), fun p => ?_⟩
  rw [e 12 (fun z => hk.1 z.symm)]
  exact Int.le_refl _
theorem fb_xpA {q k i : Nat} {a : Int32} (h : kb S u w) : kb S u (xpA w q k i a) := h
theorem fb_xpF {q k : Nat} {g : Nat → Int32} (h : kb S u w) : kb S u (xpF w q k g) := h
theorem fb_xpB {q k i : Nat} {a : Int64} (h : kb S u w) : kb S u (xpB w q k i a) := h
theorem fb_xtI {q k : Nat} {a : Int32} (h : kb S u w) : kb S u (xtI w q k a) := h
theorem fb_xmI {m k : Nat} {a : Int32} (hm : ¬ S m k) (h : kb S u w) : kb S u (xmI w m k a) := by
  refine kb_tr h ⟨fun p j hp => ⟨?_, rfl⟩, rfl, fun _ => rfl, fun _ => Int.le_refl _⟩
  show (if p = m then (if j = k then a else mI w p j) else mI w p j) = _
  by_cases z : p = m
  · by_cases y : j = k
    · exact absurd hp (by rw [z, y]; exact hm)
    · rw [if_pos z, if_neg y]
  · rw [if_neg z]
theorem fb_xmL {m k : Nat} {a : Int64} (hm : ¬ S m k) (h : kb S u w) : kb S u (xmL w m k a) := by
  refine kb_tr h ⟨fun p j hp => ⟨rfl, ?_⟩, rfl, fun _ => rfl, fun _ => Int.le_refl _⟩
  show (if p = m then (if j = k then a else mL w p j) else mL w p j) = _
  by_cases z : p = m
  · by_cases y : j = k
    · exact absurd hp (by rw [z, y]; exact hm)
    · rw [if_pos z, if_neg y]
  · rw [if_neg z]
theorem KB_some {r : β} (h : kb S u w) : KB S (some (r, w)) u := fun _ _ e => by cases e; exact h
theorem KB_none : KB S (none : Option (β × CSt)) u := fun _ _ e => nomatch e
theorem KB_rd {f : Nat → α} {n : Nat} {i : Int32} {k : α → Option (β × CSt)} (h : ∀ a, KB S (k a) u) : KB S (rd f n i k) u := by
  intro r z e
  have q : wq (rd f n i k) (fun r' z' => r' = r ∧ z' = z) := ⟨r, z, e, rfl, rfl⟩
  obtain ⟨r1, z1, e1, rfl, rfl⟩ := (wq_rd.mp q).2
  exact h _ _ _ e1
theorem KB_if {c : Prop} {d : Decidable c} {a b : Option (β × CSt)} (ha : KB S a u) (hb : KB S b u) : KB S (if c then a else b) u := by
  by_cases q : c
  · rw [if_pos q]; exact ha
  · rw [if_neg q]; exact hb
theorem KB_zr {v : Int32} {x : Option (β × CSt)} (h : KB S x u) : KB S (zr v x) u := fun r z e => h r z (zr_of e).2
theorem KB_nz {v : Int32} {x : Option (β × CSt)} (h : KB S x u) : KB S (nz v x) u := fun r z e => h r z (nz_of e).2
theorem KB_ok {P : Prop} {d : Decidable P} {x : Option (β × CSt)} (h : KB S x u) : KB S (ok P d x) u := fun r z e => h r z (ok_of e).2
theorem KB_pc {x : CSt} {k : CSt → Option (β × CSt)} (h : KB S (k x) u) : KB S (pc x k) u := h
theorem KB_wc {n : Nat} {i : Int32} {x : CSt} {k : CSt → Option (β × CSt)} (h : KB S (k x) u) : KB S (wc n i x k) u := by
  intro r z e
  have q : wq (wc n i x k) (fun r' z' => r' = r ∧ z' = z) := ⟨r, z, e, rfl, rfl⟩
  obtain ⟨r1, z1, e1, rfl, rfl⟩ := (wq_wc.mp q).2
  exact h _ _ e1
theorem KB_bc {x : Option (α × CSt)} {k : α → CSt → Option (β × CSt)} (hx : KB S x u) (h : ∀ r w, KB S (k r w) w) : KB S (bc x k) u := by
  intro r z e
  have q : wq (bc x k) (fun r' z' => r' = r ∧ z' = z) := ⟨r, z, e, rfl, rfl⟩
  obtain ⟨r1, z1, e1, r2, z2, e2, rfl, rfl⟩ := wq_bc.mp q
  exact kb_tr (hx _ _ e1) (h _ _ _ _ e2)
theorem KB_pb {x : Option α} {k : α → Option (β × CSt)} (h : ∀ a, KB S (k a) u) : KB S (pb x k) u := by
  intro r z e
  have q : wq (pb x k) (fun r' z' => r' = r ∧ z' = z) := ⟨r, z, e, rfl, rfl⟩
  obtain ⟨a, -, r1, z1, e1, rfl, rfl⟩ := wq_pb.mp q
  exact h _ _ _ e1
theorem KB_bt {x : Option (Sum Nat α × CSt)} {k : α → CSt → Option (Sum Nat γ × CSt)} (hx : KB S x u) (h : ∀ r w, KB S (k r w) w) : KB S (bt x k) u := by
  intro r z e
  unfold bt at e
  cases hq : x with
  | none => rw [hq] at e; cases e
  | some a =>
    obtain ⟨y, v⟩ := a
    rw [hq] at e
    cases y with
    | inl n => cases e; exact hx _ _ hq
    | inr b => exact kb_tr (hx _ _ hq) (h _ _ _ _ e)
theorem KB_ix {n : Nat} {i : Int32} {x : Option (β × CSt)} (h : KB S x u) : KB S (ix n i x) u := by
  intro r z e
  have q : wq (ix n i x) (fun r' z' => r' = r ∧ z' = z) := ⟨r, z, e, rfl, rfl⟩
  obtain ⟨r1, z1, e1, rfl, rfl⟩ := (wq_ix.mp q).2
  exact h _ _ e1
theorem KB_bh {x : Option (Sum Nat α × CSt)} {kc : CSt → Option (β × CSt)} {k : α → CSt → Option (β × CSt)} (hx : KB S x u) (h0 : ∀ w, KB S (kc w) w) (h : ∀ r w, KB S (k r w) w) : KB S (bh x kc k) u := by
  intro r z e
  obtain ⟨y1, w1, e1, ⟨-, e2⟩ | ⟨q, -, e2⟩⟩ := bh_of e
  · exact kb_tr (hx _ _ e1) (h0 _ _ _ e2)
  · exact kb_tr (hx _ _ e1) (h _ _ _ _ e2)
end KBs

theorem kb_B_X4_isLocal_17 {S : Nat → Nat → Prop} {N : Nat} {u : CSt}  : KB S (B_X4_isLocal_17 N u) u := by
  unfold B_X4_isLocal_17
  exact KB_some kb_rf
theorem kb_B_X4_isLocal_0 {S : Nat → Nat → Prop} {N : Nat} {l0 : Nat} {u : CSt}  : KB S (B_X4_isLocal_0 N l0 u) u := by
  unfold B_X4_isLocal_0
  refine KB_if ?_ ?_
  · skip
    exact kb_B_X4_isLocal_17.tr kb_rf
  · skip
    refine KB_if ?_ ?_
    · skip
      exact kb_B_X4_isLocal_17.tr kb_rf
    · skip
      exact KB_some kb_rf
theorem kb_F_X4_isLocal {S : Nat → Nat → Prop} {N : Nat} {l0 : Nat} {u : CSt}  : KB S (F_X4_isLocal N l0 u) u := by
  unfold F_X4_isLocal
  exact kb_B_X4_isLocal_0.tr kb_rf
theorem kb_B_X4_hasNumbers_14 {S : Nat → Nat → Prop} {N : Nat} {u : CSt}  : KB S (B_X4_hasNumbers_14 N u) u := by
  unfold B_X4_hasNumbers_14
  exact KB_some kb_rf
theorem kb_B_X4_hasNumbers_0 {S : Nat → Nat → Prop} {N : Nat} {l0 : Nat} {u : CSt}  : KB S (B_X4_hasNumbers_0 N l0 u) u := by
  unfold B_X4_hasNumbers_0
  refine KB_if ?_ ?_
  · skip
    exact kb_B_X4_hasNumbers_14.tr kb_rf
  · skip
    refine KB_bc (kb_F_X4_isLocal.tr kb_rf) (fun _ _ => ?_)
    refine KB_if ?_ ?_
    · skip
      exact KB_some kb_rf
    · skip
      exact kb_B_X4_hasNumbers_14.tr kb_rf
theorem kb_F_X4_hasNumbers {S : Nat → Nat → Prop} {N : Nat} {l0 : Nat} {u : CSt}  : KB S (F_X4_hasNumbers N l0 u) u := by
  unfold F_X4_hasNumbers
  exact kb_B_X4_hasNumbers_0.tr kb_rf
theorem kb_B_X4_isPlaced_23 {S : Nat → Nat → Prop} {N : Nat} {u : CSt}  : KB S (B_X4_isPlaced_23 N u) u := by
  unfold B_X4_isPlaced_23
  exact KB_some kb_rf
theorem kb_B_X4_isPlaced_0 {S : Nat → Nat → Prop} {N : Nat} {l0 : Nat} {u : CSt}  : KB S (B_X4_isPlaced_0 N l0 u) u := by
  unfold B_X4_isPlaced_0
  refine KB_if ?_ ?_
  · skip
    refine KB_if ?_ ?_
    · skip
      exact kb_B_X4_isPlaced_23.tr kb_rf
    · skip
      refine KB_if ?_ ?_
      · skip
        exact kb_B_X4_isPlaced_23.tr kb_rf
      · skip
        exact KB_some kb_rf
  · skip
    exact KB_some kb_rf
theorem kb_F_X4_isPlaced {S : Nat → Nat → Prop} {N : Nat} {l0 : Nat} {u : CSt}  : KB S (F_X4_isPlaced N l0 u) u := by
  unfold F_X4_isPlaced
  exact kb_B_X4_isPlaced_0.tr kb_rf
theorem kb_B_X4_isInput_0 {S : Nat → Nat → Prop} {N : Nat} {l0 : Nat} {u : CSt}  : KB S (B_X4_isInput_0 N l0 u) u := by
  unfold B_X4_isInput_0
  refine KB_if ?_ ?_
  · skip
    refine KB_if ?_ ?_
    · skip
      exact KB_some kb_rf
    · skip
      exact KB_some kb_rf
  · skip
    exact KB_some kb_rf
theorem kb_F_X4_isInput {S : Nat → Nat → Prop} {N : Nat} {l0 : Nat} {u : CSt}  : KB S (F_X4_isInput N l0 u) u := by
  unfold F_X4_isInput
  exact kb_B_X4_isInput_0.tr kb_rf
theorem kb_B_X7_become_0 {S : Nat → Nat → Prop} {N : Nat} {l0 : Nat} {l1 : Int32} {l2 : Int32} {l3 : Int32} {u : CSt}  : KB S (B_X7_become_0 N l0 l1 l2 l3 u) u := by
  unfold B_X7_become_0
  refine KB_pc ?_
  refine KB_pc ?_
  refine KB_pc ?_
  refine KB_pc ?_
  refine KB_pc ?_
  refine KB_pc ?_
  refine KB_pc ?_
  refine KB_pc ?_
  refine KB_pc ?_
  refine KB_pc ?_
  exact KB_some (fb_xtI (fb_xtI (fb_xtI (fb_xtI (fb_xtI (fb_xtI (fb_xtI (fb_xtI (fb_xtI (fb_xtI kb_rf))))))))))
theorem kb_F_X7_become {S : Nat → Nat → Prop} {N : Nat} {l0 : Nat} {l1 : Int32} {l2 : Int32} {l3 : Int32} {u : CSt}  : KB S (F_X7_become N l0 l1 l2 l3 u) u := by
  unfold F_X7_become
  exact kb_B_X7_become_0.tr kb_rf
theorem kb_B_X6_name_0 {S : Nat → Nat → Prop} {N : Nat} {l0 : Nat} {l1 : Int32} {u : CSt}  : KB S (B_X6_name_0 N l0 l1 u) u := by
  unfold B_X6_name_0
  refine KB_if ?_ ?_
  · skip
    exact KB_some kb_rf
  · skip
    refine KB_if ?_ ?_
    · skip
      exact KB_some kb_rf
    · skip
      refine KB_ix ?_
      exact KB_some kb_rf
theorem kb_F_X6_name {S : Nat → Nat → Prop} {N : Nat} {l0 : Nat} {l1 : Int32} {u : CSt}  : KB S (F_X6_name N l0 l1 u) u := by
  unfold F_X6_name
  exact kb_B_X6_name_0.tr kb_rf
theorem kb_B_X6_local_0 {S : Nat → Nat → Prop} {N : Nat} {l0 : Nat} {l1 : Nat} {l2 : Int32} {u : CSt}  : KB S (B_X6_local_0 N l0 l1 l2 u) u := by
  unfold B_X6_local_0
  refine KB_if ?_ ?_
  · skip
    exact KB_some kb_rf
  · skip
    refine KB_if ?_ ?_
    · skip
      exact KB_some kb_rf
    · skip
      refine KB_bc (kb_F_X6_name.tr kb_rf) (fun _ _ => ?_)
      refine KB_ok ?_
      exact KB_some kb_rf
theorem kb_F_X6_local {S : Nat → Nat → Prop} {N : Nat} {l0 : Nat} {l1 : Nat} {l2 : Int32} {u : CSt}  : KB S (F_X6_local N l0 l1 l2 u) u := by
  unfold F_X6_local
  exact kb_B_X6_local_0.tr kb_rf
theorem kb_B_X6_localCalled_71 {S : Nat → Nat → Prop} {N : Nat} {R_12 : Nat × Nat × Int64 × Int32 × Int32 × Int32 × CSt → Option (Nat × CSt)} {l0 : Nat} {l1 : Nat} {l2 : Int64} {l4 : Int32} {l5 : Int32} {l6 : Int32} {u : CSt} (h_R_12 : ∀ a, KB S (R_12 a) a.2.2.2.2.2.2) : KB S (B_X6_localCalled_71 N R_12 l0 l1 l2 l4 l5 l6 u) u := by
  unfold B_X6_localCalled_71
  exact (h_R_12 _).tr kb_rf
theorem kb_B_X6_localCalled_12 {S : Nat → Nat → Prop} {N : Nat} {R_12 : Nat × Nat × Int64 × Int32 × Int32 × Int32 × CSt → Option (Nat × CSt)} {l0 : Nat} {l1 : Nat} {l2 : Int64} {l4 : Int32} {l5 : Int32} {l6 : Int32} {u : CSt} (h_R_12 : ∀ a, KB S (R_12 a) a.2.2.2.2.2.2) : KB S (B_X6_localCalled_12 N R_12 l0 l1 l2 l4 l5 l6 u) u := by
  unfold B_X6_localCalled_12
  refine KB_if ?_ ?_
  · skip
    exact KB_some kb_rf
  · skip
    refine KB_if ?_ ?_
    · skip
      exact KB_some kb_rf
    · skip
      refine KB_ix ?_
      refine KB_if ?_ ?_
      · skip
        refine KB_ix ?_
        refine KB_if ?_ ?_
        · skip
          refine KB_ix ?_
          exact KB_some kb_rf
        · skip
          exact (kb_B_X6_localCalled_71 h_R_12).tr kb_rf
      · skip
        exact (kb_B_X6_localCalled_71 h_R_12).tr kb_rf
theorem kb_LP_X6_localCalled_12 {S : Nat → Nat → Prop} {N : Nat}  (n : Nat) : ∀ a : Nat × Nat × Int64 × Int32 × Int32 × Int32 × CSt, KB S (LP_X6_localCalled_12 N n a) a.2.2.2.2.2.2 := by
  induction n with
  | zero => exact fun a r z e => by have e : (none : Option _) = some (r, z) := e; cases e
  | succ n ih =>
    intro a
    show KB S (B_X6_localCalled_12 N (LP_X6_localCalled_12 N n) a.1 a.2.1 a.2.2.1 a.2.2.2.1 a.2.2.2.2.1 a.2.2.2.2.2.1 a.2.2.2.2.2.2) a.2.2.2.2.2.2
    exact kb_B_X6_localCalled_12 ih
theorem kb_B_X6_localCalled_0 {S : Nat → Nat → Prop} {N : Nat} {l0 : Nat} {l1 : Nat} {l2 : Int64} {l4 : Int32} {u : CSt}  : KB S (B_X6_localCalled_0 N l0 l1 l2 l4 u) u := by
  unfold B_X6_localCalled_0
  exact (kb_LP_X6_localCalled_12  _ _).tr kb_rf
theorem kb_F_X6_localCalled {S : Nat → Nat → Prop} {N : Nat} {l0 : Nat} {l1 : Nat} {l2 : Int64} {l4 : Int32} {u : CSt}  : KB S (F_X6_localCalled N l0 l1 l2 l4 u) u := by
  unfold F_X6_localCalled
  exact kb_B_X6_localCalled_0.tr kb_rf
theorem kb_B_X6_ofText_52 {S : Nat → Nat → Prop} {N : Nat} {R_3 : Nat × Int64 × Int32 × Int32 × CSt → Option (Nat × CSt)} {l0 : Nat} {l1 : Int64} {l3 : Int32} {l4 : Int32} {u : CSt} (h_R_3 : ∀ a, KB S (R_3 a) a.2.2.2.2) : KB S (B_X6_ofText_52 N R_3 l0 l1 l3 l4 u) u := by
  unfold B_X6_ofText_52
  exact (h_R_3 _).tr kb_rf
theorem kb_B_X6_ofText_61 {S : Nat → Nat → Prop} {N : Nat} {R_61 : Nat × Int64 × Int32 × Int32 × CSt → Option (Nat × CSt)} {l0 : Nat} {l1 : Int64} {l3 : Int32} {l4 : Int32} {u : CSt} (h_R_61 : ∀ a, KB S (R_61 a) a.2.2.2.2) : KB S (B_X6_ofText_61 N R_61 l0 l1 l3 l4 u) u := by
  unfold B_X6_ofText_61
  refine KB_if ?_ ?_
  · skip
    exact KB_some kb_rf
  · skip
    refine KB_if ?_ ?_
    · skip
      refine KB_ix ?_
      refine KB_if ?_ ?_
      · skip
        refine KB_ix ?_
        exact KB_some kb_rf
      · skip
        exact (h_R_61 _).tr kb_rf
    · skip
      exact KB_some kb_rf
theorem kb_LP_X6_ofText_61 {S : Nat → Nat → Prop} {N : Nat}  (n : Nat) : ∀ a : Nat × Int64 × Int32 × Int32 × CSt, KB S (LP_X6_ofText_61 N n a) a.2.2.2.2 := by
  induction n with
  | zero => exact fun a r z e => by have e : (none : Option _) = some (r, z) := e; cases e
  | succ n ih =>
    intro a
    show KB S (B_X6_ofText_61 N (LP_X6_ofText_61 N n) a.1 a.2.1 a.2.2.1 a.2.2.2.1 a.2.2.2.2) a.2.2.2.2
    exact kb_B_X6_ofText_61 ih
theorem kb_B_X6_ofText_3 {S : Nat → Nat → Prop} {N : Nat} {R_3 : Nat × Int64 × Int32 × Int32 × CSt → Option (Nat × CSt)} {l0 : Nat} {l1 : Int64} {l3 : Int32} {l4 : Int32} {u : CSt} (h_R_3 : ∀ a, KB S (R_3 a) a.2.2.2.2) : KB S (B_X6_ofText_3 N R_3 l0 l1 l3 l4 u) u := by
  unfold B_X6_ofText_3
  refine KB_if ?_ ?_
  · skip
    exact (kb_LP_X6_ofText_61  _ _).tr kb_rf
  · skip
    refine KB_ix ?_
    refine KB_if ?_ ?_
    · skip
      refine KB_if ?_ ?_
      · skip
        refine KB_if ?_ ?_
        · skip
          exact (kb_B_X6_ofText_52 h_R_3).tr kb_rf
        · skip
          exact KB_some kb_rf
      · skip
        exact (kb_B_X6_ofText_52 h_R_3).tr kb_rf
    · skip
      exact (kb_B_X6_ofText_52 h_R_3).tr kb_rf
theorem kb_LP_X6_ofText_3 {S : Nat → Nat → Prop} {N : Nat}  (n : Nat) : ∀ a : Nat × Int64 × Int32 × Int32 × CSt, KB S (LP_X6_ofText_3 N n a) a.2.2.2.2 := by
  induction n with
  | zero => exact fun a r z e => by have e : (none : Option _) = some (r, z) := e; cases e
  | succ n ih =>
    intro a
    show KB S (B_X6_ofText_3 N (LP_X6_ofText_3 N n) a.1 a.2.1 a.2.2.1 a.2.2.2.1 a.2.2.2.2) a.2.2.2.2
    exact kb_B_X6_ofText_3 ih
theorem kb_B_X6_ofText_0 {S : Nat → Nat → Prop} {N : Nat} {l0 : Nat} {l1 : Int64} {l3 : Int32} {u : CSt}  : KB S (B_X6_ofText_0 N l0 l1 l3 u) u := by
  unfold B_X6_ofText_0
  exact (kb_LP_X6_ofText_3  _ _).tr kb_rf
theorem kb_F_X6_ofText {S : Nat → Nat → Prop} {N : Nat} {l0 : Nat} {l1 : Int64} {l3 : Int32} {u : CSt}  : KB S (F_X6_ofText N l0 l1 l3 u) u := by
  unfold F_X6_ofText
  exact kb_B_X6_ofText_0.tr kb_rf
theorem kb_B_X6_step_0 {S : Nat → Nat → Prop} {N : Nat} {l0 : Nat} {l1 : Int32} {l2 : Int32} {l3 : Int32} {l4 : Int32} {u : CSt}  : KB S (B_X6_step_0 N l0 l1 l2 l3 l4 u) u := by
  unfold B_X6_step_0
  refine KB_if ?_ ?_
  · skip
    refine KB_wc ?_
    refine KB_wc ?_
    refine KB_wc ?_
    refine KB_wc ?_
    refine KB_pc ?_
    exact KB_some (fb_xpI (by decide) (fb_xpA (fb_xpA (fb_xpA (fb_xpA kb_rf)))))
  · skip
    exact KB_some kb_rf
theorem kb_F_X6_step {S : Nat → Nat → Prop} {N : Nat} {l0 : Nat} {l1 : Int32} {l2 : Int32} {l3 : Int32} {l4 : Int32} {u : CSt}  : KB S (F_X6_step N l0 l1 l2 l3 l4 u) u := by
  unfold F_X6_step
  exact kb_B_X6_step_0.tr kb_rf
theorem kb_B_X6_cost_0 {S : Nat → Nat → Prop} {N : Nat} {l0 : Nat} {l1 : Int32} {u : CSt}  : KB S (B_X6_cost_0 N l0 l1 u) u := by
  unfold B_X6_cost_0
  refine KB_bc (kb_F_X6_step.tr kb_rf) (fun _ _ => ?_)
  exact KB_some kb_rf
theorem kb_F_X6_cost {S : Nat → Nat → Prop} {N : Nat} {l0 : Nat} {l1 : Int32} {u : CSt}  : KB S (F_X6_cost N l0 l1 u) u := by
  unfold F_X6_cost
  exact kb_B_X6_cost_0.tr kb_rf
theorem kb_B_X6_constant_0 {S : Nat → Nat → Prop} {N : Nat} {l0 : Nat} {l1 : Int64} {l3 : Int32} {l4 : Int32} {u : CSt}  : KB S (B_X6_constant_0 N l0 l1 l3 l4 u) u := by
  unfold B_X6_constant_0
  refine KB_bc (kb_F_X6_step.tr kb_rf) (fun _ _ => ?_)
  exact KB_some kb_rf
theorem kb_F_X6_constant {S : Nat → Nat → Prop} {N : Nat} {l0 : Nat} {l1 : Int64} {l3 : Int32} {l4 : Int32} {u : CSt}  : KB S (F_X6_constant N l0 l1 l3 l4 u) u := by
  unfold F_X6_constant
  exact kb_B_X6_constant_0.tr kb_rf
theorem kb_B_X6_land_4 {S : Nat → Nat → Prop} {N : Nat} {R_4 : Nat × Int32 × Int32 × CSt → Option (Int32 × CSt)} {l0 : Nat} {l2 : Int32} {l3 : Int32} {u : CSt} (h_R_4 : ∀ a, KB S (R_4 a) a.2.2.2) : KB S (B_X6_land_4 N R_4 l0 l2 l3 u) u := by
  unfold B_X6_land_4
  refine KB_if ?_ ?_
  · skip
    exact KB_some kb_rf
  · skip
    refine KB_if ?_ ?_
    · skip
      exact KB_some kb_rf
    · skip
      refine KB_if ?_ ?_
      · skip
        exact KB_some kb_rf
      · skip
        refine KB_rd (fun _ => ?_)
        refine KB_wc ?_
        exact (h_R_4 _).tr (fb_xpA kb_rf)
theorem kb_LP_X6_land_4 {S : Nat → Nat → Prop} {N : Nat}  (n : Nat) : ∀ a : Nat × Int32 × Int32 × CSt, KB S (LP_X6_land_4 N n a) a.2.2.2 := by
  induction n with
  | zero => exact fun a r z e => by have e : (none : Option _) = some (r, z) := e; cases e
  | succ n ih =>
    intro a
    show KB S (B_X6_land_4 N (LP_X6_land_4 N n) a.1 a.2.1 a.2.2.1 a.2.2.2) a.2.2.2
    exact kb_B_X6_land_4 ih
theorem kb_B_X6_land_0 {S : Nat → Nat → Prop} {N : Nat} {l0 : Nat} {l1 : Int32} {u : CSt}  : KB S (B_X6_land_0 N l0 l1 u) u := by
  unfold B_X6_land_0
  exact (kb_LP_X6_land_4  _ _).tr kb_rf
theorem kb_F_X6_land {S : Nat → Nat → Prop} {N : Nat} {l0 : Nat} {l1 : Int32} {u : CSt}  : KB S (F_X6_land N l0 l1 u) u := by
  unfold F_X6_land
  exact kb_B_X6_land_0.tr kb_rf
theorem kb_B_X6_label_0 {S : Nat → Nat → Prop} {N : Nat} {l0 : Nat} {l1 : Int64} {l3 : Int64} {u : CSt}  : KB S (B_X6_label_0 N l0 l1 l3 u) u := by
  unfold B_X6_label_0
  refine KB_if ?_ ?_
  · skip
    exact KB_some kb_rf
  · skip
    refine KB_wc ?_
    refine KB_wc ?_
    refine KB_pc ?_
    exact KB_some (fb_xpI (by decide) (fb_xpB (fb_xpB kb_rf)))
theorem kb_F_X6_label {S : Nat → Nat → Prop} {N : Nat} {l0 : Nat} {l1 : Int64} {l3 : Int64} {u : CSt}  : KB S (F_X6_label N l0 l1 l3 u) u := by
  unfold F_X6_label
  exact kb_B_X6_label_0.tr kb_rf
theorem kb_B_X9_rewind_0 {S : Nat → Nat → Prop} {N : Nat} {u : CSt}  : KB S (B_X9_rewind_0 N u) u := by
  unfold B_X9_rewind_0
  refine KB_pc ?_
  exact KB_some (fb_xI kb_rf)
theorem kb_F_X9_rewind {S : Nat → Nat → Prop} {N : Nat} {u : CSt}  : KB S (F_X9_rewind N u) u := by
  unfold F_X9_rewind
  exact kb_B_X9_rewind_0.tr kb_rf
theorem kb_B_X9_type_0 {S : Nat → Nat → Prop} {N : Nat} {u : CSt}  : KB S (B_X9_type_0 N u) u := by
  unfold B_X9_type_0
  refine KB_rd (fun _ => ?_)
  exact KB_some kb_rf
theorem kb_F_X9_type {S : Nat → Nat → Prop} {N : Nat} {u : CSt}  : KB S (F_X9_type N u) u := by
  unfold F_X9_type
  exact kb_B_X9_type_0.tr kb_rf
theorem kb_B_X9_typeAhead_0 {S : Nat → Nat → Prop} {N : Nat} {l1 : Int32} {u : CSt}  : KB S (B_X9_typeAhead_0 N l1 u) u := by
  unfold B_X9_typeAhead_0
  refine KB_if ?_ ?_
  · skip
    exact KB_some kb_rf
  · skip
    refine KB_rd (fun _ => ?_)
    exact KB_some kb_rf
theorem kb_F_X9_typeAhead {S : Nat → Nat → Prop} {N : Nat} {l1 : Int32} {u : CSt}  : KB S (F_X9_typeAhead N l1 u) u := by
  unfold F_X9_typeAhead
  exact kb_B_X9_typeAhead_0.tr kb_rf
theorem kb_B_X9_is_0 {S : Nat → Nat → Prop} {N : Nat} {l1 : Int32} {u : CSt}  : KB S (B_X9_is_0 N l1 u) u := by
  unfold B_X9_is_0
  refine KB_rd (fun _ => ?_)
  refine KB_if ?_ ?_
  · skip
    exact KB_some kb_rf
  · skip
    exact KB_some kb_rf
theorem kb_F_X9_is {S : Nat → Nat → Prop} {N : Nat} {l1 : Int32} {u : CSt}  : KB S (F_X9_is N l1 u) u := by
  unfold F_X9_is
  exact kb_B_X9_is_0.tr kb_rf
theorem kb_B_X9_isKindWord_0 {S : Nat → Nat → Prop} {N : Nat} {u : CSt}  : KB S (B_X9_isKindWord_0 N u) u := by
  unfold B_X9_isKindWord_0
  refine KB_rd (fun _ => ?_)
  refine KB_if ?_ ?_
  · skip
    exact KB_some kb_rf
  · skip
    refine KB_rd (fun _ => ?_)
    refine KB_if ?_ ?_
    · skip
      exact KB_some kb_rf
    · skip
      exact KB_some kb_rf
theorem kb_F_X9_isKindWord {S : Nat → Nat → Prop} {N : Nat} {u : CSt}  : KB S (F_X9_isKindWord N u) u := by
  unfold F_X9_isKindWord
  exact kb_B_X9_isKindWord_0.tr kb_rf
theorem kb_B_X9_here_0 {S : Nat → Nat → Prop} {N : Nat} {u : CSt}  : KB S (B_X9_here_0 N u) u := by
  unfold B_X9_here_0
  refine KB_rd (fun _ => ?_)
  exact KB_some kb_rf
theorem kb_F_X9_here {S : Nat → Nat → Prop} {N : Nat} {u : CSt}  : KB S (F_X9_here N u) u := by
  unfold F_X9_here
  exact kb_B_X9_here_0.tr kb_rf
theorem kb_B_X9_head_0 {S : Nat → Nat → Prop} {N : Nat} {u : CSt}  : KB S (B_X9_head_0 N u) u := by
  unfold B_X9_head_0
  refine KB_rd (fun _ => ?_)
  exact KB_some kb_rf
theorem kb_F_X9_head {S : Nat → Nat → Prop} {N : Nat} {u : CSt}  : KB S (F_X9_head N u) u := by
  unfold F_X9_head
  exact kb_B_X9_head_0.tr kb_rf
theorem kb_B_X9_tail_0 {S : Nat → Nat → Prop} {N : Nat} {u : CSt}  : KB S (B_X9_tail_0 N u) u := by
  unfold B_X9_tail_0
  refine KB_rd (fun _ => ?_)
  exact KB_some kb_rf
theorem kb_F_X9_tail {S : Nat → Nat → Prop} {N : Nat} {u : CSt}  : KB S (F_X9_tail N u) u := by
  unfold F_X9_tail
  exact kb_B_X9_tail_0.tr kb_rf
theorem kb_B_X9_isWide_0 {S : Nat → Nat → Prop} {N : Nat} {u : CSt}  : KB S (B_X9_isWide_0 N u) u := by
  unfold B_X9_isWide_0
  refine KB_rd (fun _ => ?_)
  refine KB_if ?_ ?_
  · skip
    exact KB_some kb_rf
  · skip
    exact KB_some kb_rf
theorem kb_F_X9_isWide {S : Nat → Nat → Prop} {N : Nat} {u : CSt}  : KB S (F_X9_isWide N u) u := by
  unfold F_X9_isWide
  exact kb_B_X9_isWide_0.tr kb_rf
theorem kb_B_X9_next_0 {S : Nat → Nat → Prop} {N : Nat} {u : CSt}  : KB S (B_X9_next_0 N u) u := by
  unfold B_X9_next_0
  refine KB_if ?_ ?_
  · skip
    exact KB_some kb_rf
  · skip
    refine KB_pc ?_
    exact KB_some (fb_xI kb_rf)
theorem kb_F_X9_next {S : Nat → Nat → Prop} {N : Nat} {u : CSt}  : KB S (F_X9_next N u) u := by
  unfold F_X9_next
  exact kb_B_X9_next_0.tr kb_rf
theorem kb_B_X9_refuse_0 {S : Nat → Nat → Prop} {N : Nat} {l1 : Int32} {l2 : Int32} {u : CSt}  : KB S (B_X9_refuse_0 N l1 l2 u) u := by
  unfold B_X9_refuse_0
  refine KB_pc ?_
  refine KB_pc ?_
  exact KB_some (fb_xI (fb_xI kb_rf))
theorem kb_F_X9_refuse {S : Nat → Nat → Prop} {N : Nat} {l1 : Int32} {l2 : Int32} {u : CSt}  : KB S (F_X9_refuse N l1 l2 u) u := by
  unfold F_X9_refuse
  exact kb_B_X9_refuse_0.tr kb_rf
theorem kb_B_X9_takeNumber_28 {S : Nat → Nat → Prop} {N : Nat} {u : CSt}  : KB S (B_X9_takeNumber_28 N u) u := by
  unfold B_X9_takeNumber_28
  refine KB_rd (fun _ => ?_)
  refine KB_bc (kb_F_X9_next.tr kb_rf) (fun _ _ => ?_)
  exact KB_some kb_rf
theorem kb_B_X9_takeNumber_0 {S : Nat → Nat → Prop} {N : Nat} {u : CSt}  : KB S (B_X9_takeNumber_0 N u) u := by
  unfold B_X9_takeNumber_0
  refine KB_rd (fun _ => ?_)
  refine KB_if ?_ ?_
  · skip
    exact kb_B_X9_takeNumber_28.tr kb_rf
  · skip
    refine KB_rd (fun _ => ?_)
    refine KB_bt (kb_F_X9_refuse.tr kb_rf) (fun _ _ => ?_)
    exact kb_B_X9_takeNumber_28.tr kb_rf
theorem kb_F_X9_takeNumber {S : Nat → Nat → Prop} {N : Nat} {u : CSt}  : KB S (F_X9_takeNumber N u) u := by
  unfold F_X9_takeNumber
  exact kb_B_X9_takeNumber_0.tr kb_rf
theorem kb_B_X9_takeBounded_53 {S : Nat → Nat → Prop} {N : Nat} {l5 : Int64} {u : CSt}  : KB S (B_X9_takeBounded_53 N l5 u) u := by
  unfold B_X9_takeBounded_53
  refine KB_bc (kb_F_X9_next.tr kb_rf) (fun _ _ => ?_)
  exact KB_some kb_rf
theorem kb_B_X9_takeBounded_39 {S : Nat → Nat → Prop} {N : Nat} {l5 : Int64} {u : CSt}  : KB S (B_X9_takeBounded_39 N l5 u) u := by
  unfold B_X9_takeBounded_39
  refine KB_rd (fun _ => ?_)
  refine KB_bt (kb_F_X9_refuse.tr kb_rf) (fun _ _ => ?_)
  exact kb_B_X9_takeBounded_53.tr kb_rf
theorem kb_B_X9_takeBounded_0 {S : Nat → Nat → Prop} {N : Nat} {l1 : Int64} {l3 : Int64} {u : CSt}  : KB S (B_X9_takeBounded_0 N l1 l3 u) u := by
  unfold B_X9_takeBounded_0
  refine KB_rd (fun _ => ?_)
  refine KB_rd (fun _ => ?_)
  refine KB_if ?_ ?_
  · skip
    refine KB_if ?_ ?_
    · skip
      exact kb_B_X9_takeBounded_39.tr kb_rf
    · skip
      refine KB_if ?_ ?_
      · skip
        exact kb_B_X9_takeBounded_53.tr kb_rf
      · skip
        exact kb_B_X9_takeBounded_39.tr kb_rf
  · skip
    exact kb_B_X9_takeBounded_39.tr kb_rf
theorem kb_F_X9_takeBounded {S : Nat → Nat → Prop} {N : Nat} {l1 : Int64} {l3 : Int64} {u : CSt}  : KB S (F_X9_takeBounded N l1 l3 u) u := by
  unfold F_X9_takeBounded
  exact kb_B_X9_takeBounded_0.tr kb_rf
theorem kb_B_X9_takeKind_0 {S : Nat → Nat → Prop} {N : Nat} {u : CSt}  : KB S (B_X9_takeKind_0 N u) u := by
  unfold B_X9_takeKind_0
  refine KB_rd (fun _ => ?_)
  refine KB_bc (kb_F_X9_next.tr kb_rf) (fun _ _ => ?_)
  exact KB_some kb_rf
theorem kb_F_X9_takeKind {S : Nat → Nat → Prop} {N : Nat} {u : CSt}  : KB S (F_X9_takeKind N u) u := by
  unfold F_X9_takeKind
  exact kb_B_X9_takeKind_0.tr kb_rf
theorem kb_B_X6_hasRoomFor_58 {S : Nat → Nat → Prop} {N : Nat} {u : CSt}  : KB S (B_X6_hasRoomFor_58 N u) u := by
  unfold B_X6_hasRoomFor_58
  exact KB_some kb_rf
theorem kb_B_X6_hasRoomFor_0 {S : Nat → Nat → Prop} {N : Nat} {l0 : Nat} {l1 : Int32} {u : CSt}  : KB S (B_X6_hasRoomFor_0 N l0 l1 u) u := by
  unfold B_X6_hasRoomFor_0
  refine KB_if ?_ ?_
  · skip
    refine KB_if ?_ ?_
    · skip
      refine KB_bc (kb_F_X6_name.tr kb_rf) (fun _ _ => ?_)
      refine KB_ok ?_
      refine KB_if ?_ ?_
      · skip
        exact KB_some kb_rf
      · skip
        exact KB_some kb_rf
    · skip
      refine KB_if ?_ ?_
      · skip
        exact kb_B_X6_hasRoomFor_58.tr kb_rf
      · skip
        refine KB_rd (fun _ => ?_)
        refine KB_rd (fun _ => ?_)
        refine KB_if ?_ ?_
        · skip
          exact KB_some kb_rf
        · skip
          exact kb_B_X6_hasRoomFor_58.tr kb_rf
  · skip
    exact KB_some kb_rf
theorem kb_F_X6_hasRoomFor {S : Nat → Nat → Prop} {N : Nat} {l0 : Nat} {l1 : Int32} {u : CSt}  : KB S (F_X6_hasRoomFor N l0 l1 u) u := by
  unfold F_X6_hasRoomFor
  exact kb_B_X6_hasRoomFor_0.tr kb_rf
theorem kb_B_X8_known_0 {S : Nat → Nat → Prop} {N : Nat} {u : CSt}  : KB S (B_X8_known_0 N u) u := by
  unfold B_X8_known_0
  refine KB_bc (kb_F_X9_head.tr kb_rf) (fun _ _ => ?_)
  refine KB_bc (kb_F_X9_tail.tr kb_rf) (fun _ _ => ?_)
  refine KB_ok ?_
  refine KB_bc (kb_F_X6_name.tr kb_rf) (fun _ _ => ?_)
  refine KB_ok ?_
  refine KB_bc (kb_F_X6_localCalled.tr kb_rf) (fun _ _ => ?_)
  refine KB_ok ?_
  refine KB_if ?_ ?_
  · skip
    refine KB_ok ?_
    refine KB_bc (kb_F_X6_ofText.tr kb_rf) (fun _ _ => ?_)
    refine KB_ok ?_
    exact KB_some kb_rf
  · skip
    exact KB_some kb_rf
theorem kb_F_X8_known {S : Nat → Nat → Prop} {N : Nat} {u : CSt}  : KB S (F_X8_known N u) u := by
  unfold F_X8_known
  exact kb_B_X8_known_0.tr kb_rf
theorem kb_B_X8_placeName_63 {S : Nat → Nat → Prop} {N : Nat} {l2 : Nat} {u : CSt}  : KB S (B_X8_placeName_63 N l2 u) u := by
  unfold B_X8_placeName_63
  refine KB_bc (kb_F_X9_here.tr kb_rf) (fun _ _ => ?_)
  refine KB_bt (kb_F_X9_refuse.tr kb_rf) (fun _ _ => ?_)
  exact KB_some kb_rf
theorem kb_B_X8_placeName_49 {S : Nat → Nat → Prop} {N : Nat} {l1 : Int32} {l2 : Nat} {s0 : Int32} {s1 : Int32} {u : CSt}  : KB S (B_X8_placeName_49 N l1 l2 s0 s1 u) u := by
  unfold B_X8_placeName_49
  refine KB_if ?_ ?_
  · skip
    refine KB_if ?_ ?_
    · skip
      exact KB_some kb_rf
    · skip
      refine KB_bc (kb_F_X4_isInput.tr kb_rf) (fun _ _ => ?_)
      refine KB_if ?_ ?_
      · skip
        exact KB_some kb_rf
      · skip
        exact kb_B_X8_placeName_63.tr kb_rf
  · skip
    exact kb_B_X8_placeName_63.tr kb_rf
theorem kb_B_X8_placeName_27 {S : Nat → Nat → Prop} {N : Nat} {l1 : Int32} {l2 : Nat} {u : CSt}  : KB S (B_X8_placeName_27 N l1 l2 u) u := by
  unfold B_X8_placeName_27
  refine KB_bc (kb_F_X9_typeAhead.tr kb_rf) (fun _ _ => ?_)
  refine KB_if ?_ ?_
  · skip
    exact kb_B_X8_placeName_49.tr kb_rf
  · skip
    exact kb_B_X8_placeName_49.tr kb_rf
theorem kb_B_X8_placeName_0 {S : Nat → Nat → Prop} {N : Nat} {l1 : Int32} {u : CSt}  : KB S (B_X8_placeName_0 N l1 u) u := by
  unfold B_X8_placeName_0
  refine KB_bc (kb_F_X8_known.tr kb_rf) (fun _ _ => ?_)
  refine KB_ok ?_
  refine KB_bc (kb_F_X4_hasNumbers.tr kb_rf) (fun _ _ => ?_)
  refine KB_if ?_ ?_
  · skip
    refine KB_bc (kb_F_X9_here.tr kb_rf) (fun _ _ => ?_)
    refine KB_bt (kb_F_X9_refuse.tr kb_rf) (fun _ _ => ?_)
    exact kb_B_X8_placeName_27.tr kb_rf
  · skip
    exact kb_B_X8_placeName_27.tr kb_rf
theorem kb_F_X8_placeName {S : Nat → Nat → Prop} {N : Nat} {l1 : Int32} {u : CSt}  : KB S (F_X8_placeName N l1 u) u := by
  unfold F_X8_placeName
  exact kb_B_X8_placeName_0.tr kb_rf
theorem kb_B_X8_isTooWide_26 {S : Nat → Nat → Prop} {N : Nat} {u : CSt}  : KB S (B_X8_isTooWide_26 N u) u := by
  unfold B_X8_isTooWide_26
  exact KB_some kb_rf
theorem kb_B_X8_isTooWide_0 {S : Nat → Nat → Prop} {N : Nat} {l1 : Int32} {l2 : Int32} {u : CSt}  : KB S (B_X8_isTooWide_0 N l1 l2 u) u := by
  unfold B_X8_isTooWide_0
  refine KB_if ?_ ?_
  · skip
    refine KB_if ?_ ?_
    · skip
      exact kb_B_X8_isTooWide_26.tr kb_rf
    · skip
      refine KB_if ?_ ?_
      · skip
        exact kb_B_X8_isTooWide_26.tr kb_rf
      · skip
        exact KB_some kb_rf
  · skip
    exact KB_some kb_rf
theorem kb_F_X8_isTooWide {S : Nat → Nat → Prop} {N : Nat} {l1 : Int32} {l2 : Int32} {u : CSt}  : KB S (F_X8_isTooWide N l1 l2 u) u := by
  unfold F_X8_isTooWide
  exact kb_B_X8_isTooWide_0.tr kb_rf
theorem kb_B_X8_combine_25 {S : Nat → Nat → Prop} {N : Nat} {l4 : Int32} {l5 : Int32} {s0 : Nat} {s1 : Int32} {s2 : Int32} {s3 : Int32} {u : CSt}  : KB S (B_X8_combine_25 N l4 l5 s0 s1 s2 s3 u) u := by
  unfold B_X8_combine_25
  refine KB_bc (kb_F_X6_step.tr kb_rf) (fun _ _ => ?_)
  refine KB_if ?_ ?_
  · skip
    exact KB_some kb_rf
  · skip
    exact KB_some kb_rf
theorem kb_B_X8_combine_0 {S : Nat → Nat → Prop} {N : Nat} {l1 : Int32} {l2 : Int32} {l3 : Int32} {l4 : Int32} {u : CSt}  : KB S (B_X8_combine_0 N l1 l2 l3 l4 u) u := by
  unfold B_X8_combine_0
  refine KB_ok ?_
  refine KB_if ?_ ?_
  · skip
    exact kb_B_X8_combine_25.tr kb_rf
  · skip
    exact kb_B_X8_combine_25.tr kb_rf
theorem kb_F_X8_combine {S : Nat → Nat → Prop} {N : Nat} {l1 : Int32} {l2 : Int32} {l3 : Int32} {l4 : Int32} {u : CSt}  : KB S (F_X8_combine N l1 l2 l3 l4 u) u := by
  unfold F_X8_combine
  exact kb_B_X8_combine_0.tr kb_rf
theorem kb_B_X8_defer_121 {S : Nat → Nat → Prop} {N : Nat} {u : CSt}  : KB S (B_X8_defer_121 N u) u := by
  unfold B_X8_defer_121
  refine KB_bc (kb_F_X9_next.tr kb_rf) (fun _ _ => ?_)
  exact KB_some kb_rf
theorem kb_B_X8_defer_41 {S : Nat → Nat → Prop} {N : Nat} {l1 : Int32} {l2 : Int32} {l3 : Int32} {s0 : Int32} {u : CSt}  : KB S (B_X8_defer_41 N l1 l2 l3 s0 u) u := by
  unfold B_X8_defer_41
  refine KB_ok ?_
  refine KB_bc (kb_F_X6_step.tr kb_rf) (fun _ _ => ?_)
  refine KB_if ?_ ?_
  · skip
    exact kb_B_X8_defer_121.tr kb_rf
  · skip
    refine KB_wc ?_
    refine KB_wc ?_
    refine KB_wc ?_
    refine KB_wc ?_
    refine KB_pc ?_
    exact kb_B_X8_defer_121.tr (fb_xI (fb_xA (fb_xA (fb_xA (fb_xA kb_rf)))))
theorem kb_B_X8_defer_0 {S : Nat → Nat → Prop} {N : Nat} {l1 : Int32} {u : CSt}  : KB S (B_X8_defer_0 N l1 u) u := by
  unfold B_X8_defer_0
  refine KB_bc (kb_F_X9_type.tr kb_rf) (fun _ _ => ?_)
  refine KB_bc (kb_F_X9_here.tr kb_rf) (fun _ _ => ?_)
  refine KB_if ?_ ?_
  · skip
    exact kb_B_X8_defer_41.tr kb_rf
  · skip
    refine KB_if ?_ ?_
    · skip
      exact kb_B_X8_defer_41.tr kb_rf
    · skip
      exact kb_B_X8_defer_41.tr kb_rf
theorem kb_F_X8_defer {S : Nat → Nat → Prop} {N : Nat} {l1 : Int32} {u : CSt}  : KB S (F_X8_defer N l1 u) u := by
  unfold F_X8_defer
  exact kb_B_X8_defer_0.tr kb_rf
theorem kb_B_X8_settle_171 {S : Nat → Nat → Prop} {N : Nat} {R_3 : Int32 × Int32 × Int32 × CSt → Option (Int32 × CSt)} {l1 : Int32} {l2 : Int32} {l4 : Int32} {u : CSt} (h_R_3 : ∀ a, KB S (R_3 a) a.2.2.2) : KB S (B_X8_settle_171 N R_3 l1 l2 l4 u) u := by
  unfold B_X8_settle_171
  exact (h_R_3 _).tr kb_rf
theorem kb_B_X8_settle_84 {S : Nat → Nat → Prop} {N : Nat} {R_3 : Int32 × Int32 × Int32 × CSt → Option (Int32 × CSt)} {l1 : Int32} {l2 : Int32} {l6 : Int32} {u : CSt} (h_R_3 : ∀ a, KB S (R_3 a) a.2.2.2) : KB S (B_X8_settle_84 N R_3 l1 l2 l6 u) u := by
  unfold B_X8_settle_84
  refine KB_ok ?_
  refine KB_bc (kb_F_X6_step.tr kb_rf) (fun _ _ => ?_)
  refine KB_ok ?_
  refine KB_rd (fun _ => ?_)
  refine KB_bc (kb_F_X6_land.tr kb_rf) (fun _ _ => ?_)
  exact (kb_B_X8_settle_171 h_R_3).tr kb_rf
theorem kb_B_X8_settle_3 {S : Nat → Nat → Prop} {N : Nat} {R_3 : Int32 × Int32 × Int32 × CSt → Option (Int32 × CSt)} {l1 : Int32} {l2 : Int32} {l4 : Int32} {u : CSt} (h_R_3 : ∀ a, KB S (R_3 a) a.2.2.2) : KB S (B_X8_settle_3 N R_3 l1 l2 l4 u) u := by
  unfold B_X8_settle_3
  refine KB_if ?_ ?_
  · skip
    exact KB_some kb_rf
  · skip
    refine KB_rd (fun _ => ?_)
    refine KB_pb (fun _ => ?_)
    refine KB_if ?_ ?_
    · skip
      exact KB_some kb_rf
    · skip
      refine KB_pc ?_
      refine KB_rd (fun _ => ?_)
      refine KB_rd (fun _ => ?_)
      refine KB_pb (fun _ => ?_)
      refine KB_if ?_ ?_
      · skip
        exact (kb_B_X8_settle_84 h_R_3).tr (fb_xI kb_rf)
      · skip
        refine KB_if ?_ ?_
        · skip
          exact (kb_B_X8_settle_84 h_R_3).tr (fb_xI kb_rf)
        · skip
          refine KB_if ?_ ?_
          · skip
            refine KB_pb (fun _ => ?_)
            refine KB_rd (fun _ => ?_)
            refine KB_bc (kb_F_X8_combine.tr (fb_xI kb_rf)) (fun _ _ => ?_)
            exact (kb_B_X8_settle_171 h_R_3).tr kb_rf
          · skip
            refine KB_ok ?_
            refine KB_bc (kb_F_X6_step.tr (fb_xI kb_rf)) (fun _ _ => ?_)
            exact (kb_B_X8_settle_171 h_R_3).tr kb_rf
theorem kb_LP_X8_settle_3 {S : Nat → Nat → Prop} {N : Nat}  (n : Nat) : ∀ a : Int32 × Int32 × Int32 × CSt, KB S (LP_X8_settle_3 N n a) a.2.2.2 := by
  induction n with
  | zero => exact fun a r z e => by have e : (none : Option _) = some (r, z) := e; cases e
  | succ n ih =>
    intro a
    show KB S (B_X8_settle_3 N (LP_X8_settle_3 N n) a.1 a.2.1 a.2.2.1 a.2.2.2) a.2.2.2
    exact kb_B_X8_settle_3 ih
theorem kb_B_X8_settle_0 {S : Nat → Nat → Prop} {N : Nat} {l1 : Int32} {l2 : Int32} {l3 : Int32} {u : CSt}  : KB S (B_X8_settle_0 N l1 l2 l3 u) u := by
  unfold B_X8_settle_0
  exact (kb_LP_X8_settle_3  _ _).tr kb_rf
theorem kb_F_X8_settle {S : Nat → Nat → Prop} {N : Nat} {l1 : Int32} {l2 : Int32} {l3 : Int32} {u : CSt}  : KB S (F_X8_settle N l1 l2 l3 u) u := by
  unfold F_X8_settle
  exact kb_B_X8_settle_0.tr kb_rf
theorem kb_B_X8_number_15 {S : Nat → Nat → Prop} {N : Nat} {l1 : Int32} {s0 : Int32} {u : CSt}  : KB S (B_X8_number_15 N l1 s0 u) u := by
  unfold B_X8_number_15
  refine KB_bt (kb_F_X9_takeNumber.tr kb_rf) (fun _ _ => ?_)
  refine KB_pc ?_
  refine KB_pc ?_
  refine KB_ok ?_
  refine KB_bc (kb_F_X6_constant.tr (fb_xI (fb_xL kb_rf))) (fun _ _ => ?_)
  exact KB_some kb_rf
theorem kb_B_X8_number_0 {S : Nat → Nat → Prop} {N : Nat} {l1 : Int32} {u : CSt}  : KB S (B_X8_number_0 N l1 u) u := by
  unfold B_X8_number_0
  refine KB_bc (kb_F_X9_isWide.tr kb_rf) (fun _ _ => ?_)
  refine KB_if ?_ ?_
  · skip
    exact kb_B_X8_number_15.tr kb_rf
  · skip
    exact kb_B_X8_number_15.tr kb_rf
theorem kb_F_X8_number {S : Nat → Nat → Prop} {N : Nat} {l1 : Int32} {u : CSt}  : KB S (F_X8_number N l1 u) u := by
  unfold F_X8_number
  exact kb_B_X8_number_0.tr kb_rf
theorem kb_B_X8_bit_0 {S : Nat → Nat → Prop} {N : Nat} {l1 : Int32} {u : CSt}  : KB S (B_X8_bit_0 N l1 u) u := by
  unfold B_X8_bit_0
  refine KB_bc (kb_F_X9_next.tr kb_rf) (fun _ _ => ?_)
  refine KB_rd (fun _ => ?_)
  refine KB_bt (kb_F_X9_takeBounded.tr kb_rf) (fun _ _ => ?_)
  exact KB_some kb_rf
theorem kb_F_X8_bit {S : Nat → Nat → Prop} {N : Nat} {l1 : Int32} {u : CSt}  : KB S (F_X8_bit N l1 u) u := by
  unfold F_X8_bit
  exact kb_B_X8_bit_0.tr kb_rf
theorem kb_B_X8_get_36 {S : Nat → Nat → Prop} {N : Nat} {l1 : Nat} {l2 : Int32} {l3 : Int32} {l4 : Int32} {u : CSt}  : KB S (B_X8_get_36 N l1 l2 l3 l4 u) u := by
  unfold B_X8_get_36
  refine KB_ok ?_
  refine KB_bc (kb_F_X6_step.tr kb_rf) (fun _ _ => ?_)
  exact KB_some kb_rf
theorem kb_B_X8_get_34 {S : Nat → Nat → Prop} {N : Nat} {l1 : Nat} {l2 : Int32} {l3 : Int32} {s0 : Int32} {u : CSt}  : KB S (B_X8_get_34 N l1 l2 l3 s0 u) u := by
  unfold B_X8_get_34
  exact kb_B_X8_get_36.tr kb_rf
theorem kb_B_X8_get_12 {S : Nat → Nat → Prop} {N : Nat} {l1 : Nat} {l2 : Int32} {l3 : Int32} {s0 : Int32} {u : CSt}  : KB S (B_X8_get_12 N l1 l2 l3 s0 u) u := by
  unfold B_X8_get_12
  refine KB_bc (kb_F_X4_isPlaced.tr kb_rf) (fun _ _ => ?_)
  refine KB_if ?_ ?_
  · skip
    exact kb_B_X8_get_36.tr kb_rf
  · skip
    refine KB_bc (kb_F_X4_isInput.tr kb_rf) (fun _ _ => ?_)
    refine KB_if ?_ ?_
    · skip
      exact kb_B_X8_get_34.tr kb_rf
    · skip
      exact kb_B_X8_get_34.tr kb_rf
theorem kb_B_X8_get_0 {S : Nat → Nat → Prop} {N : Nat} {l1 : Nat} {l2 : Int32} {l3 : Int32} {u : CSt}  : KB S (B_X8_get_0 N l1 l2 l3 u) u := by
  unfold B_X8_get_0
  refine KB_bc (kb_F_X4_isLocal.tr kb_rf) (fun _ _ => ?_)
  refine KB_if ?_ ?_
  · skip
    exact kb_B_X8_get_12.tr kb_rf
  · skip
    exact kb_B_X8_get_12.tr kb_rf
theorem kb_F_X8_get {S : Nat → Nat → Prop} {N : Nat} {l1 : Nat} {l2 : Int32} {l3 : Int32} {u : CSt}  : KB S (F_X8_get N l1 l2 l3 u) u := by
  unfold F_X8_get
  exact kb_B_X8_get_0.tr kb_rf
theorem kb_B_X8_set_26 {S : Nat → Nat → Prop} {N : Nat} {l1 : Nat} {l2 : Int32} {s0 : Int32} {u : CSt}  : KB S (B_X8_set_26 N l1 l2 s0 u) u := by
  unfold B_X8_set_26
  refine KB_ok ?_
  refine KB_bc (kb_F_X6_step.tr kb_rf) (fun _ _ => ?_)
  exact KB_some kb_rf
theorem kb_B_X8_set_0 {S : Nat → Nat → Prop} {N : Nat} {l1 : Nat} {l2 : Int32} {u : CSt}  : KB S (B_X8_set_0 N l1 l2 u) u := by
  unfold B_X8_set_0
  refine KB_bc (kb_F_X4_isLocal.tr kb_rf) (fun _ _ => ?_)
  refine KB_if ?_ ?_
  · skip
    refine KB_bc (kb_F_X4_isPlaced.tr kb_rf) (fun _ _ => ?_)
    refine KB_if ?_ ?_
    · skip
      exact kb_B_X8_set_26.tr kb_rf
    · skip
      exact kb_B_X8_set_26.tr kb_rf
  · skip
    exact kb_B_X8_set_26.tr kb_rf
theorem kb_F_X8_set {S : Nat → Nat → Prop} {N : Nat} {l1 : Nat} {l2 : Int32} {u : CSt}  : KB S (F_X8_set N l1 l2 u) u := by
  unfold F_X8_set
  exact kb_B_X8_set_0.tr kb_rf
theorem kb_B_X8_expression_0 {S : Nat → Nat → Prop} {N : Nat} {ro : Nat → Nat → Int32 → Int32 → CSt → Option (Sum Nat Int32 × CSt)} {u : CSt} (h_ro : ∀ q z a b u, KB S (ro q z a b u) u) : KB S (B_X8_expression_0 N ro u) u := by
  unfold B_X8_expression_0
  refine KB_bt ((h_ro _ _ _ _ _).tr kb_rf) (fun _ _ => ?_)
  refine KB_bc (kb_F_X9_is.tr kb_rf) (fun _ _ => ?_)
  refine KB_if ?_ ?_
  · skip
    exact KB_some kb_rf
  · skip
    refine KB_bc (kb_F_X9_here.tr kb_rf) (fun _ _ => ?_)
    refine KB_ok ?_
    refine KB_bc (kb_F_X6_step.tr kb_rf) (fun _ _ => ?_)
    refine KB_bc (kb_F_X9_next.tr kb_rf) (fun _ _ => ?_)
    refine KB_bt ((h_ro _ _ _ _ _).tr kb_rf) (fun _ _ => ?_)
    refine KB_ok ?_
    refine KB_bc (kb_F_X6_step.tr kb_rf) (fun _ _ => ?_)
    refine KB_ok ?_
    refine KB_bc (kb_F_X6_land.tr kb_rf) (fun _ _ => ?_)
    refine KB_bc (kb_F_X9_next.tr kb_rf) (fun _ _ => ?_)
    refine KB_bt ((h_ro _ _ _ _ _).tr kb_rf) (fun _ _ => ?_)
    refine KB_ok ?_
    refine KB_bc (kb_F_X6_land.tr kb_rf) (fun _ _ => ?_)
    refine KB_pc ?_
    exact KB_some (fb_xI kb_rf)
theorem kb_F_X8_expression {S : Nat → Nat → Prop} {N : Nat} {ro : Nat → Nat → Int32 → Int32 → CSt → Option (Sum Nat Int32 × CSt)} {u : CSt} (h_ro : ∀ q z a b u, KB S (ro q z a b u) u) : KB S (F_X8_expression N ro u) u := by
  unfold F_X8_expression
  exact (kb_B_X8_expression_0 h_ro).tr kb_rf
theorem kb_B_X8_operators_76 {S : Nat → Nat → Prop} {N : Nat} {ro : Nat → Nat → Int32 → Int32 → CSt → Option (Sum Nat Int32 × CSt)} {l1 : Int32} {l2 : Int32} {u : CSt} (h_ro : ∀ q z a b u, KB S (ro q z a b u) u) : KB S (B_X8_operators_76 N ro l1 l2 u) u := by
  unfold B_X8_operators_76
  refine KB_bc (kb_F_X8_settle.tr kb_rf) (fun _ _ => ?_)
  exact KB_some kb_rf
theorem kb_B_X8_operators_24 {S : Nat → Nat → Prop} {N : Nat} {ro : Nat → Nat → Int32 → Int32 → CSt → Option (Sum Nat Int32 × CSt)} {R_24 : Int32 × Int32 × Int32 × Int32 × CSt → Option ((Sum Nat Int32) × CSt)} {l1 : Int32} {l2 : Int32} {l3 : Int32} {l4 : Int32} {u : CSt} (h_ro : ∀ q z a b u, KB S (ro q z a b u) u) (h_R_24 : ∀ a, KB S (R_24 a) a.2.2.2.2) : KB S (B_X8_operators_24 N ro R_24 l1 l2 l3 l4 u) u := by
  unfold B_X8_operators_24
  refine KB_if ?_ ?_
  · skip
    exact (kb_B_X8_operators_76 h_ro).tr kb_rf
  · skip
    refine KB_if ?_ ?_
    · skip
      exact (kb_B_X8_operators_76 h_ro).tr kb_rf
    · skip
      refine KB_bc (kb_F_X8_settle.tr kb_rf) (fun _ _ => ?_)
      refine KB_bc (kb_F_X8_defer.tr kb_rf) (fun _ _ => ?_)
      refine KB_bt ((h_ro _ _ _ _ _).tr kb_rf) (fun _ _ => ?_)
      refine KB_pc ?_
      refine KB_bc (kb_F_X9_type.tr (fb_xI kb_rf)) (fun _ _ => ?_)
      refine KB_pb (fun _ => ?_)
      exact (h_R_24 _).tr kb_rf
theorem kb_LP_X8_operators_24 {S : Nat → Nat → Prop} {N : Nat} {ro : Nat → Nat → Int32 → Int32 → CSt → Option (Sum Nat Int32 × CSt)} (h_ro : ∀ q z a b u, KB S (ro q z a b u) u) (n : Nat) : ∀ a : Int32 × Int32 × Int32 × Int32 × CSt, KB S (LP_X8_operators_24 N ro n a) a.2.2.2.2 := by
  induction n with
  | zero => exact fun a r z e => by have e : (none : Option _) = some (r, z) := e; cases e
  | succ n ih =>
    intro a
    show KB S (B_X8_operators_24 N ro (LP_X8_operators_24 N ro n) a.1 a.2.1 a.2.2.1 a.2.2.2.1 a.2.2.2.2) a.2.2.2.2
    exact kb_B_X8_operators_24 h_ro ih
theorem kb_B_X8_operators_0 {S : Nat → Nat → Prop} {N : Nat} {ro : Nat → Nat → Int32 → Int32 → CSt → Option (Sum Nat Int32 × CSt)} {u : CSt} (h_ro : ∀ q z a b u, KB S (ro q z a b u) u) : KB S (B_X8_operators_0 N ro u) u := by
  unfold B_X8_operators_0
  refine KB_bt ((h_ro _ _ _ _ _).tr kb_rf) (fun _ _ => ?_)
  refine KB_bc (kb_F_X9_type.tr kb_rf) (fun _ _ => ?_)
  refine KB_pb (fun _ => ?_)
  exact (kb_LP_X8_operators_24 h_ro _ _).tr kb_rf
theorem kb_F_X8_operators {S : Nat → Nat → Prop} {N : Nat} {ro : Nat → Nat → Int32 → Int32 → CSt → Option (Sum Nat Int32 × CSt)} {u : CSt} (h_ro : ∀ q z a b u, KB S (ro q z a b u) u) : KB S (F_X8_operators N ro u) u := by
  unfold F_X8_operators
  exact (kb_B_X8_operators_0 h_ro).tr kb_rf
theorem kb_B_X8_operand_0 {S : Nat → Nat → Prop} {N : Nat} {ro : Nat → Nat → Int32 → Int32 → CSt → Option (Sum Nat Int32 × CSt)} {u : CSt} (h_ro : ∀ q z a b u, KB S (ro q z a b u) u) : KB S (B_X8_operand_0 N ro u) u := by
  unfold B_X8_operand_0
  refine KB_bc (kb_F_X9_here.tr kb_rf) (fun _ _ => ?_)
  refine KB_bc (kb_F_X9_type.tr kb_rf) (fun _ _ => ?_)
  refine KB_if ?_ ?_
  · skip
    refine KB_ok ?_
    refine KB_bc (kb_F_X6_step.tr kb_rf) (fun _ _ => ?_)
    refine KB_bc (kb_F_X9_next.tr kb_rf) (fun _ _ => ?_)
    refine KB_pc ?_
    exact KB_some (fb_xI kb_rf)
  · skip
    refine KB_if ?_ ?_
    · skip
      refine KB_bt ((h_ro _ _ _ _ _).tr kb_rf) (fun _ _ => ?_)
      exact KB_some kb_rf
    · skip
      refine KB_if ?_ ?_
      · skip
        refine KB_bt ((h_ro _ _ _ _ _).tr kb_rf) (fun _ _ => ?_)
        exact KB_some kb_rf
      · skip
        refine KB_if ?_ ?_
        · skip
          refine KB_bt ((h_ro _ _ _ _ _).tr kb_rf) (fun _ _ => ?_)
          exact KB_some kb_rf
        · skip
          refine KB_if ?_ ?_
          · skip
            refine KB_bt ((h_ro _ _ _ _ _).tr kb_rf) (fun _ _ => ?_)
            exact KB_some kb_rf
          · skip
            refine KB_if ?_ ?_
            · skip
              refine KB_bt (kb_F_X8_number.tr kb_rf) (fun _ _ => ?_)
              exact KB_some kb_rf
            · skip
              refine KB_if ?_ ?_
              · skip
                refine KB_bt (kb_F_X8_number.tr kb_rf) (fun _ _ => ?_)
                exact KB_some kb_rf
              · skip
                refine KB_bt ((h_ro _ _ _ _ _).tr kb_rf) (fun _ _ => ?_)
                exact KB_some kb_rf
theorem kb_F_X8_operand {S : Nat → Nat → Prop} {N : Nat} {ro : Nat → Nat → Int32 → Int32 → CSt → Option (Sum Nat Int32 × CSt)} {u : CSt} (h_ro : ∀ q z a b u, KB S (ro q z a b u) u) : KB S (F_X8_operand N ro u) u := by
  unfold F_X8_operand
  exact (kb_B_X8_operand_0 h_ro).tr kb_rf
theorem kb_B_X8_signed_146 {S : Nat → Nat → Prop} {N : Nat} {ro : Nat → Nat → Int32 → Int32 → CSt → Option (Sum Nat Int32 × CSt)} {l2 : Int32} {l4 : Int32} {s1 : Int32} {u : CSt} (h_ro : ∀ q z a b u, KB S (ro q z a b u) u) : KB S (B_X8_signed_146 N ro l2 l4 s1 u) u := by
  unfold B_X8_signed_146
  refine KB_pc ?_
  refine KB_if ?_ ?_
  · skip
    exact KB_some (fb_xL kb_rf)
  · skip
    exact KB_some (fb_xL kb_rf)
theorem kb_B_X8_signed_131 {S : Nat → Nat → Prop} {N : Nat} {ro : Nat → Nat → Int32 → Int32 → CSt → Option (Sum Nat Int32 × CSt)} {l2 : Int32} {l4 : Int32} {s1 : Int32} {u : CSt} (h_ro : ∀ q z a b u, KB S (ro q z a b u) u) : KB S (B_X8_signed_131 N ro l2 l4 s1 u) u := by
  unfold B_X8_signed_131
  refine KB_zr ?_
  refine KB_pc ?_
  refine KB_if ?_ ?_
  · skip
    exact (kb_B_X8_signed_146 h_ro).tr (fb_xI kb_rf)
  · skip
    exact (kb_B_X8_signed_146 h_ro).tr (fb_xI kb_rf)
theorem kb_B_X8_signed_130 {S : Nat → Nat → Prop} {N : Nat} {ro : Nat → Nat → Int32 → Int32 → CSt → Option (Sum Nat Int32 × CSt)} {l2 : Int32} {l4 : Int32} {u : CSt} (h_ro : ∀ q z a b u, KB S (ro q z a b u) u) : KB S (B_X8_signed_130 N ro l2 l4 u) u := by
  unfold B_X8_signed_130
  exact (kb_B_X8_signed_131 h_ro).tr kb_rf
theorem kb_B_X8_signed_110 {S : Nat → Nat → Prop} {N : Nat} {ro : Nat → Nat → Int32 → Int32 → CSt → Option (Sum Nat Int32 × CSt)} {l1 : Int32} {l2 : Int32} {l3 : Int32} {l4 : Int32} {s0 : Nat} {s1 : Int32} {s2 : Int32} {s3 : Int32} {u : CSt} (h_ro : ∀ q z a b u, KB S (ro q z a b u) u) : KB S (B_X8_signed_110 N ro l1 l2 l3 l4 s0 s1 s2 s3 u) u := by
  unfold B_X8_signed_110
  refine KB_bc (kb_F_X6_step.tr kb_rf) (fun _ _ => ?_)
  refine KB_if ?_ ?_
  · skip
    refine KB_if ?_ ?_
    · skip
      exact (kb_B_X8_signed_130 h_ro).tr kb_rf
    · skip
      exact (kb_B_X8_signed_131 h_ro).tr kb_rf
  · skip
    exact (kb_B_X8_signed_130 h_ro).tr kb_rf
theorem kb_B_X8_signed_89 {S : Nat → Nat → Prop} {N : Nat} {ro : Nat → Nat → Int32 → Int32 → CSt → Option (Sum Nat Int32 × CSt)} {l1 : Int32} {l2 : Int32} {l3 : Int32} {l4 : Int32} {s0 : Int32} {u : CSt} (h_ro : ∀ q z a b u, KB S (ro q z a b u) u) : KB S (B_X8_signed_89 N ro l1 l2 l3 l4 s0 u) u := by
  unfold B_X8_signed_89
  refine KB_ok ?_
  refine KB_if ?_ ?_
  · skip
    exact (kb_B_X8_signed_110 h_ro).tr kb_rf
  · skip
    exact (kb_B_X8_signed_110 h_ro).tr kb_rf
theorem kb_B_X8_signed_54 {S : Nat → Nat → Prop} {N : Nat} {ro : Nat → Nat → Int32 → Int32 → CSt → Option (Sum Nat Int32 × CSt)} {l1 : Int32} {l2 : Int32} {s0 : Int32} {u : CSt} (h_ro : ∀ q z a b u, KB S (ro q z a b u) u) : KB S (B_X8_signed_54 N ro l1 l2 s0 u) u := by
  unfold B_X8_signed_54
  refine KB_bt ((h_ro _ _ _ _ _).tr kb_rf) (fun _ _ => ?_)
  refine KB_if ?_ ?_
  · skip
    exact (kb_B_X8_signed_89 h_ro).tr kb_rf
  · skip
    refine KB_if ?_ ?_
    · skip
      exact (kb_B_X8_signed_89 h_ro).tr kb_rf
    · skip
      exact (kb_B_X8_signed_89 h_ro).tr kb_rf
theorem kb_B_X8_signed_49 {S : Nat → Nat → Prop} {N : Nat} {ro : Nat → Nat → Int32 → Int32 → CSt → Option (Sum Nat Int32 × CSt)} {l1 : Int32} {l2 : Int32} {u : CSt} (h_ro : ∀ q z a b u, KB S (ro q z a b u) u) : KB S (B_X8_signed_49 N ro l1 l2 u) u := by
  unfold B_X8_signed_49
  exact (kb_B_X8_signed_54 h_ro).tr kb_rf
theorem kb_B_X8_signed_0 {S : Nat → Nat → Prop} {N : Nat} {ro : Nat → Nat → Int32 → Int32 → CSt → Option (Sum Nat Int32 × CSt)} {l1 : Int32} {u : CSt} (h_ro : ∀ q z a b u, KB S (ro q z a b u) u) : KB S (B_X8_signed_0 N ro l1 u) u := by
  unfold B_X8_signed_0
  refine KB_bc (kb_F_X9_type.tr kb_rf) (fun _ _ => ?_)
  refine KB_ok ?_
  refine KB_bc (kb_F_X6_cost.tr kb_rf) (fun _ _ => ?_)
  refine KB_bc (kb_F_X9_next.tr kb_rf) (fun _ _ => ?_)
  refine KB_bc (kb_F_X9_is.tr kb_rf) (fun _ _ => ?_)
  refine KB_if ?_ ?_
  · skip
    refine KB_bc (kb_F_X9_is.tr kb_rf) (fun _ _ => ?_)
    refine KB_if ?_ ?_
    · skip
      exact (kb_B_X8_signed_54 h_ro).tr kb_rf
    · skip
      exact (kb_B_X8_signed_49 h_ro).tr kb_rf
  · skip
    exact (kb_B_X8_signed_49 h_ro).tr kb_rf
theorem kb_F_X8_signed {S : Nat → Nat → Prop} {N : Nat} {ro : Nat → Nat → Int32 → Int32 → CSt → Option (Sum Nat Int32 × CSt)} {l1 : Int32} {u : CSt} (h_ro : ∀ q z a b u, KB S (ro q z a b u) u) : KB S (F_X8_signed N ro l1 u) u := by
  unfold F_X8_signed
  exact (kb_B_X8_signed_0 h_ro).tr kb_rf
theorem kb_B_X8_bracket_0 {S : Nat → Nat → Prop} {N : Nat} {ro : Nat → Nat → Int32 → Int32 → CSt → Option (Sum Nat Int32 × CSt)} {l1 : Int32} {u : CSt} (h_ro : ∀ q z a b u, KB S (ro q z a b u) u) : KB S (B_X8_bracket_0 N ro l1 u) u := by
  unfold B_X8_bracket_0
  refine KB_bc (kb_F_X9_next.tr kb_rf) (fun _ _ => ?_)
  refine KB_bc (kb_F_X9_isKindWord.tr kb_rf) (fun _ _ => ?_)
  refine KB_if ?_ ?_
  · skip
    refine KB_bt ((h_ro _ _ _ _ _).tr kb_rf) (fun _ _ => ?_)
    refine KB_bc (kb_F_X9_next.tr kb_rf) (fun _ _ => ?_)
    exact KB_some kb_rf
  · skip
    refine KB_bc (kb_F_X9_takeKind.tr kb_rf) (fun _ _ => ?_)
    refine KB_bc (kb_F_X9_next.tr kb_rf) (fun _ _ => ?_)
    refine KB_ok ?_
    refine KB_bc (kb_F_X6_cost.tr kb_rf) (fun _ _ => ?_)
    refine KB_bt ((h_ro _ _ _ _ _).tr kb_rf) (fun _ _ => ?_)
    refine KB_ok ?_
    refine KB_bc (kb_F_X6_step.tr kb_rf) (fun _ _ => ?_)
    refine KB_pc ?_
    exact KB_some (fb_xI kb_rf)
theorem kb_F_X8_bracket {S : Nat → Nat → Prop} {N : Nat} {ro : Nat → Nat → Int32 → Int32 → CSt → Option (Sum Nat Int32 × CSt)} {l1 : Int32} {u : CSt} (h_ro : ∀ q z a b u, KB S (ro q z a b u) u) : KB S (F_X8_bracket N ro l1 u) u := by
  unfold F_X8_bracket
  exact (kb_B_X8_bracket_0 h_ro).tr kb_rf
theorem kb_B_X8_named_58 {S : Nat → Nat → Prop} {N : Nat} {ro : Nat → Nat → Int32 → Int32 → CSt → Option (Sum Nat Int32 × CSt)} {l1 : Int32} {u : CSt} (h_ro : ∀ q z a b u, KB S (ro q z a b u) u) : KB S (B_X8_named_58 N ro l1 u) u := by
  unfold B_X8_named_58
  refine KB_bt ((h_ro _ _ _ _ _).tr kb_rf) (fun _ _ => ?_)
  refine KB_pc ?_
  exact KB_some (fb_xI kb_rf)
theorem kb_B_X8_named_0 {S : Nat → Nat → Prop} {N : Nat} {ro : Nat → Nat → Int32 → Int32 → CSt → Option (Sum Nat Int32 × CSt)} {l1 : Int32} {u : CSt} (h_ro : ∀ q z a b u, KB S (ro q z a b u) u) : KB S (B_X8_named_0 N ro l1 u) u := by
  unfold B_X8_named_0
  refine KB_bc (kb_F_X9_typeAhead.tr kb_rf) (fun _ _ => ?_)
  refine KB_if ?_ ?_
  · skip
    refine KB_bt ((h_ro _ _ _ _ _).tr kb_rf) (fun _ _ => ?_)
    refine KB_pc ?_
    exact KB_some (fb_xI kb_rf)
  · skip
    refine KB_bc (kb_F_X9_typeAhead.tr kb_rf) (fun _ _ => ?_)
    refine KB_if ?_ ?_
    · skip
      refine KB_bc (kb_F_X9_typeAhead.tr kb_rf) (fun _ _ => ?_)
      refine KB_if ?_ ?_
      · skip
        refine KB_bt ((h_ro _ _ _ _ _).tr kb_rf) (fun _ _ => ?_)
        refine KB_pc ?_
        exact KB_some (fb_xI kb_rf)
      · skip
        exact (kb_B_X8_named_58 h_ro).tr kb_rf
    · skip
      exact (kb_B_X8_named_58 h_ro).tr kb_rf
theorem kb_F_X8_named {S : Nat → Nat → Prop} {N : Nat} {ro : Nat → Nat → Int32 → Int32 → CSt → Option (Sum Nat Int32 × CSt)} {l1 : Int32} {u : CSt} (h_ro : ∀ q z a b u, KB S (ro q z a b u) u) : KB S (F_X8_named N ro l1 u) u := by
  unfold F_X8_named
  exact (kb_B_X8_named_0 h_ro).tr kb_rf
theorem kb_B_X8_ofPlace_58 {S : Nat → Nat → Prop} {N : Nat} {ro : Nat → Nat → Int32 → Int32 → CSt → Option (Sum Nat Int32 × CSt)} {l1 : Int32} {l2 : Nat} {u : CSt} (h_ro : ∀ q z a b u, KB S (ro q z a b u) u) : KB S (B_X8_ofPlace_58 N ro l1 l2 u) u := by
  unfold B_X8_ofPlace_58
  refine KB_bc (kb_F_X9_is.tr kb_rf) (fun _ _ => ?_)
  refine KB_if ?_ ?_
  · skip
    exact KB_some kb_rf
  · skip
    refine KB_ok ?_
    refine KB_bt (kb_F_X8_bit.tr kb_rf) (fun _ _ => ?_)
    refine KB_bc (kb_F_X6_step.tr kb_rf) (fun _ _ => ?_)
    exact KB_some kb_rf
theorem kb_B_X8_ofPlace_0 {S : Nat → Nat → Prop} {N : Nat} {ro : Nat → Nat → Int32 → Int32 → CSt → Option (Sum Nat Int32 × CSt)} {l1 : Int32} {u : CSt} (h_ro : ∀ q z a b u, KB S (ro q z a b u) u) : KB S (B_X8_ofPlace_0 N ro l1 u) u := by
  unfold B_X8_ofPlace_0
  refine KB_bt (kb_F_X8_placeName.tr kb_rf) (fun _ _ => ?_)
  refine KB_ok ?_
  refine KB_bc (kb_F_X9_next.tr kb_rf) (fun _ _ => ?_)
  refine KB_if ?_ ?_
  · skip
    refine KB_bc (kb_F_X8_get.tr kb_rf) (fun _ _ => ?_)
    exact (kb_B_X8_ofPlace_58 h_ro).tr kb_rf
  · skip
    refine KB_ok ?_
    refine KB_bc (kb_F_X6_cost.tr kb_rf) (fun _ _ => ?_)
    refine KB_bt ((h_ro _ _ _ _ _).tr kb_rf) (fun _ _ => ?_)
    refine KB_ok ?_
    refine KB_bc (kb_F_X6_step.tr kb_rf) (fun _ _ => ?_)
    exact (kb_B_X8_ofPlace_58 h_ro).tr kb_rf
theorem kb_F_X8_ofPlace {S : Nat → Nat → Prop} {N : Nat} {ro : Nat → Nat → Int32 → Int32 → CSt → Option (Sum Nat Int32 × CSt)} {l1 : Int32} {u : CSt} (h_ro : ∀ q z a b u, KB S (ro q z a b u) u) : KB S (F_X8_ofPlace N ro l1 u) u := by
  unfold F_X8_ofPlace
  exact (kb_B_X8_ofPlace_0 h_ro).tr kb_rf
theorem kb_B_X8_ofInstance_132 {S : Nat → Nat → Prop} {N : Nat} {ro : Nat → Nat → Int32 → Int32 → CSt → Option (Sum Nat Int32 × CSt)} {l2 : Nat} {l3 : Int32} {l4 : Nat} {u : CSt} (h_ro : ∀ q z a b u, KB S (ro q z a b u) u) : KB S (B_X8_ofInstance_132 N ro l2 l3 l4 u) u := by
  unfold B_X8_ofInstance_132
  refine KB_bc (kb_F_X9_next.tr kb_rf) (fun _ _ => ?_)
  refine KB_if ?_ ?_
  · skip
    refine KB_ok ?_
    refine KB_bc (kb_F_X6_step.tr kb_rf) (fun _ _ => ?_)
    exact KB_some kb_rf
  · skip
    refine KB_ok ?_
    refine KB_bc (kb_F_X6_cost.tr kb_rf) (fun _ _ => ?_)
    refine KB_bt ((h_ro _ _ _ _ _).tr kb_rf) (fun _ _ => ?_)
    refine KB_ok ?_
    refine KB_bc (kb_F_X6_step.tr kb_rf) (fun _ _ => ?_)
    refine KB_ok ?_
    refine KB_bc (kb_F_X6_step.tr kb_rf) (fun _ _ => ?_)
    exact KB_some kb_rf
theorem kb_B_X8_ofInstance_120 {S : Nat → Nat → Prop} {N : Nat} {ro : Nat → Nat → Int32 → Int32 → CSt → Option (Sum Nat Int32 × CSt)} {l2 : Nat} {l3 : Int32} {l4 : Nat} {s0 : Int32} {s1 : Int32} {u : CSt} (h_ro : ∀ q z a b u, KB S (ro q z a b u) u) : KB S (B_X8_ofInstance_120 N ro l2 l3 l4 s0 s1 u) u := by
  unfold B_X8_ofInstance_120
  refine KB_if ?_ ?_
  · skip
    exact (kb_B_X8_ofInstance_132 h_ro).tr kb_rf
  · skip
    refine KB_bt (kb_F_X9_refuse.tr kb_rf) (fun _ _ => ?_)
    exact (kb_B_X8_ofInstance_132 h_ro).tr kb_rf
theorem kb_B_X8_ofInstance_97 {S : Nat → Nat → Prop} {N : Nat} {ro : Nat → Nat → Int32 → Int32 → CSt → Option (Sum Nat Int32 × CSt)} {l2 : Nat} {l3 : Int32} {l4 : Nat} {u : CSt} (h_ro : ∀ q z a b u, KB S (ro q z a b u) u) : KB S (B_X8_ofInstance_97 N ro l2 l3 l4 u) u := by
  unfold B_X8_ofInstance_97
  refine KB_bc (kb_F_X9_typeAhead.tr kb_rf) (fun _ _ => ?_)
  refine KB_if ?_ ?_
  · skip
    exact (kb_B_X8_ofInstance_120 h_ro).tr kb_rf
  · skip
    exact (kb_B_X8_ofInstance_120 h_ro).tr kb_rf
theorem kb_B_X8_ofInstance_22 {S : Nat → Nat → Prop} {N : Nat} {ro : Nat → Nat → Int32 → Int32 → CSt → Option (Sum Nat Int32 × CSt)} {l2 : Nat} {u : CSt} (h_ro : ∀ q z a b u, KB S (ro q z a b u) u) : KB S (B_X8_ofInstance_22 N ro l2 u) u := by
  unfold B_X8_ofInstance_22
  refine KB_bc (kb_F_X9_next.tr kb_rf) (fun _ _ => ?_)
  refine KB_bc (kb_F_X9_next.tr kb_rf) (fun _ _ => ?_)
  refine KB_bc (kb_F_X9_here.tr kb_rf) (fun _ _ => ?_)
  refine KB_ok ?_
  refine KB_bc (kb_F_X6_name.tr kb_rf) (fun _ _ => ?_)
  refine KB_ok ?_
  refine KB_bc (kb_F_X9_head.tr kb_rf) (fun _ _ => ?_)
  refine KB_bc (kb_F_X9_tail.tr kb_rf) (fun _ _ => ?_)
  refine KB_bc (kb_F_X6_localCalled.tr kb_rf) (fun _ _ => ?_)
  refine KB_ok ?_
  refine KB_if ?_ ?_
  · skip
    refine KB_bt (kb_F_X9_refuse.tr kb_rf) (fun _ _ => ?_)
    exact (kb_B_X8_ofInstance_97 h_ro).tr kb_rf
  · skip
    exact (kb_B_X8_ofInstance_97 h_ro).tr kb_rf
theorem kb_B_X8_ofInstance_0 {S : Nat → Nat → Prop} {N : Nat} {ro : Nat → Nat → Int32 → Int32 → CSt → Option (Sum Nat Int32 × CSt)} {l1 : Int32} {u : CSt} (h_ro : ∀ q z a b u, KB S (ro q z a b u) u) : KB S (B_X8_ofInstance_0 N ro l1 u) u := by
  unfold B_X8_ofInstance_0
  refine KB_bc (kb_F_X8_known.tr kb_rf) (fun _ _ => ?_)
  refine KB_ok ?_
  refine KB_if ?_ ?_
  · skip
    exact (kb_B_X8_ofInstance_22 h_ro).tr kb_rf
  · skip
    refine KB_bt (kb_F_X9_refuse.tr kb_rf) (fun _ _ => ?_)
    exact (kb_B_X8_ofInstance_22 h_ro).tr kb_rf
theorem kb_F_X8_ofInstance {S : Nat → Nat → Prop} {N : Nat} {ro : Nat → Nat → Int32 → Int32 → CSt → Option (Sum Nat Int32 × CSt)} {l1 : Int32} {u : CSt} (h_ro : ∀ q z a b u, KB S (ro q z a b u) u) : KB S (F_X8_ofInstance N ro l1 u) u := by
  unfold F_X8_ofInstance
  exact (kb_B_X8_ofInstance_0 h_ro).tr kb_rf
theorem kb_B_X8_called_31 {S : Nat → Nat → Prop} {N : Nat} {ro : Nat → Nat → Int32 → Int32 → CSt → Option (Sum Nat Int32 × CSt)} {l1 : Int32} {l2 : Nat} {u : CSt} (h_ro : ∀ q z a b u, KB S (ro q z a b u) u) : KB S (B_X8_called_31 N ro l1 l2 u) u := by
  unfold B_X8_called_31
  refine KB_ok ?_
  refine KB_bc (kb_F_X6_cost.tr kb_rf) (fun _ _ => ?_)
  refine KB_if ?_ ?_
  · skip
    refine KB_bt ((h_ro _ _ _ _ _).tr kb_rf) (fun _ _ => ?_)
    exact KB_some kb_rf
  · skip
    refine KB_bt ((h_ro _ _ _ _ _).tr kb_rf) (fun _ _ => ?_)
    refine KB_ok ?_
    refine KB_bc (kb_F_X6_step.tr kb_rf) (fun _ _ => ?_)
    exact KB_some kb_rf
theorem kb_B_X8_called_0 {S : Nat → Nat → Prop} {N : Nat} {ro : Nat → Nat → Int32 → Int32 → CSt → Option (Sum Nat Int32 × CSt)} {l1 : Int32} {u : CSt} (h_ro : ∀ q z a b u, KB S (ro q z a b u) u) : KB S (B_X8_called_0 N ro l1 u) u := by
  unfold B_X8_called_0
  refine KB_bc (kb_F_X8_known.tr kb_rf) (fun _ _ => ?_)
  refine KB_ok ?_
  refine KB_if ?_ ?_
  · skip
    exact (kb_B_X8_called_31 h_ro).tr kb_rf
  · skip
    refine KB_if ?_ ?_
    · skip
      exact (kb_B_X8_called_31 h_ro).tr kb_rf
    · skip
      refine KB_bt (kb_F_X9_refuse.tr kb_rf) (fun _ _ => ?_)
      exact (kb_B_X8_called_31 h_ro).tr kb_rf
theorem kb_F_X8_called {S : Nat → Nat → Prop} {N : Nat} {ro : Nat → Nat → Int32 → Int32 → CSt → Option (Sum Nat Int32 × CSt)} {l1 : Int32} {u : CSt} (h_ro : ∀ q z a b u, KB S (ro q z a b u) u) : KB S (F_X8_called N ro l1 u) u := by
  unfold F_X8_called
  exact (kb_B_X8_called_0 h_ro).tr kb_rf
theorem kb_B_X8_builtIn_71 {S : Nat → Nat → Prop} {N : Nat} {ro : Nat → Nat → Int32 → Int32 → CSt → Option (Sum Nat Int32 × CSt)} {R_22 : Nat × Int32 × Int32 × Int32 × Int32 × CSt → Option ((Sum Nat Int32) × CSt)} {l1 : Nat} {l2 : Int32} {l4 : Int32} {l5 : Int32} {l6 : Int32} {s0 : Int32} {u : CSt} (h_ro : ∀ q z a b u, KB S (ro q z a b u) u) (h_R_22 : ∀ a, KB S (R_22 a) a.2.2.2.2.2) : KB S (B_X8_builtIn_71 N ro R_22 l1 l2 l4 l5 l6 s0 u) u := by
  unfold B_X8_builtIn_71
  exact (h_R_22 _).tr kb_rf
theorem kb_B_X8_builtIn_54 {S : Nat → Nat → Prop} {N : Nat} {ro : Nat → Nat → Int32 → Int32 → CSt → Option (Sum Nat Int32 × CSt)} {R_22 : Nat × Int32 × Int32 × Int32 × Int32 × CSt → Option ((Sum Nat Int32) × CSt)} {l1 : Nat} {l2 : Int32} {l3 : Int32} {l4 : Int32} {l5 : Int32} {u : CSt} (h_ro : ∀ q z a b u, KB S (ro q z a b u) u) (h_R_22 : ∀ a, KB S (R_22 a) a.2.2.2.2.2) : KB S (B_X8_builtIn_54 N ro R_22 l1 l2 l3 l4 l5 u) u := by
  unfold B_X8_builtIn_54
  refine KB_bt ((h_ro _ _ _ _ _).tr kb_rf) (fun _ _ => ?_)
  refine KB_if ?_ ?_
  · skip
    exact (kb_B_X8_builtIn_71 h_ro h_R_22).tr kb_rf
  · skip
    exact (kb_B_X8_builtIn_71 h_ro h_R_22).tr kb_rf
theorem kb_B_X8_builtIn_215 {S : Nat → Nat → Prop} {N : Nat} {ro : Nat → Nat → Int32 → Int32 → CSt → Option (Sum Nat Int32 × CSt)} {u : CSt} (h_ro : ∀ q z a b u, KB S (ro q z a b u) u) : KB S (B_X8_builtIn_215 N ro u) u := by
  unfold B_X8_builtIn_215
  exact KB_some kb_rf
theorem kb_B_X8_builtIn_192 {S : Nat → Nat → Prop} {N : Nat} {ro : Nat → Nat → Int32 → Int32 → CSt → Option (Sum Nat Int32 × CSt)} {l1 : Nat} {l2 : Int32} {l7 : Int32} {s0 : Nat} {s1 : Int32} {s2 : Int32} {s3 : Int32} {u : CSt} (h_ro : ∀ q z a b u, KB S (ro q z a b u) u) : KB S (B_X8_builtIn_192 N ro l1 l2 l7 s0 s1 s2 s3 u) u := by
  unfold B_X8_builtIn_192
  refine KB_bc (kb_F_X6_step.tr kb_rf) (fun _ _ => ?_)
  refine KB_if ?_ ?_
  · skip
    exact (kb_B_X8_builtIn_215 h_ro).tr kb_rf
  · skip
    refine KB_if ?_ ?_
    · skip
      exact (kb_B_X8_builtIn_215 h_ro).tr kb_rf
    · skip
      exact KB_some kb_rf
theorem kb_B_X8_builtIn_169 {S : Nat → Nat → Prop} {N : Nat} {ro : Nat → Nat → Int32 → Int32 → CSt → Option (Sum Nat Int32 × CSt)} {l1 : Nat} {l2 : Int32} {l7 : Int32} {s0 : Int32} {u : CSt} (h_ro : ∀ q z a b u, KB S (ro q z a b u) u) : KB S (B_X8_builtIn_169 N ro l1 l2 l7 s0 u) u := by
  unfold B_X8_builtIn_169
  refine KB_ok ?_
  refine KB_if ?_ ?_
  · skip
    exact (kb_B_X8_builtIn_192 h_ro).tr kb_rf
  · skip
    exact (kb_B_X8_builtIn_192 h_ro).tr kb_rf
theorem kb_B_X8_builtIn_152 {S : Nat → Nat → Prop} {N : Nat} {ro : Nat → Nat → Int32 → Int32 → CSt → Option (Sum Nat Int32 × CSt)} {l1 : Nat} {l2 : Int32} {s0 : Int32} {u : CSt} (h_ro : ∀ q z a b u, KB S (ro q z a b u) u) : KB S (B_X8_builtIn_152 N ro l1 l2 s0 u) u := by
  unfold B_X8_builtIn_152
  refine KB_if ?_ ?_
  · skip
    exact (kb_B_X8_builtIn_169 h_ro).tr kb_rf
  · skip
    exact (kb_B_X8_builtIn_169 h_ro).tr kb_rf
theorem kb_B_X8_builtIn_135 {S : Nat → Nat → Prop} {N : Nat} {ro : Nat → Nat → Int32 → Int32 → CSt → Option (Sum Nat Int32 × CSt)} {l1 : Nat} {l2 : Int32} {l3 : Int32} {l4 : Int32} {s0 : Int32} {u : CSt} (h_ro : ∀ q z a b u, KB S (ro q z a b u) u) : KB S (B_X8_builtIn_135 N ro l1 l2 l3 l4 s0 u) u := by
  unfold B_X8_builtIn_135
  refine KB_if ?_ ?_
  · skip
    exact (kb_B_X8_builtIn_152 h_ro).tr kb_rf
  · skip
    exact (kb_B_X8_builtIn_152 h_ro).tr kb_rf
theorem kb_B_X8_builtIn_130 {S : Nat → Nat → Prop} {N : Nat} {ro : Nat → Nat → Int32 → Int32 → CSt → Option (Sum Nat Int32 × CSt)} {l1 : Nat} {l2 : Int32} {l3 : Int32} {l4 : Int32} {u : CSt} (h_ro : ∀ q z a b u, KB S (ro q z a b u) u) : KB S (B_X8_builtIn_130 N ro l1 l2 l3 l4 u) u := by
  unfold B_X8_builtIn_130
  exact (kb_B_X8_builtIn_135 h_ro).tr kb_rf
theorem kb_B_X8_builtIn_112 {S : Nat → Nat → Prop} {N : Nat} {ro : Nat → Nat → Int32 → Int32 → CSt → Option (Sum Nat Int32 × CSt)} {l1 : Nat} {l2 : Int32} {l3 : Int32} {l4 : Int32} {u : CSt} (h_ro : ∀ q z a b u, KB S (ro q z a b u) u) : KB S (B_X8_builtIn_112 N ro l1 l2 l3 l4 u) u := by
  unfold B_X8_builtIn_112
  refine KB_if ?_ ?_
  · skip
    exact (kb_B_X8_builtIn_130 h_ro).tr kb_rf
  · skip
    refine KB_if ?_ ?_
    · skip
      exact (kb_B_X8_builtIn_130 h_ro).tr kb_rf
    · skip
      exact (kb_B_X8_builtIn_135 h_ro).tr kb_rf
theorem kb_B_X8_builtIn_87 {S : Nat → Nat → Prop} {N : Nat} {ro : Nat → Nat → Int32 → Int32 → CSt → Option (Sum Nat Int32 × CSt)} {l1 : Nat} {l2 : Int32} {l3 : Int32} {l4 : Int32} {l5 : Int32} {u : CSt} (h_ro : ∀ q z a b u, KB S (ro q z a b u) u) : KB S (B_X8_builtIn_87 N ro l1 l2 l3 l4 l5 u) u := by
  unfold B_X8_builtIn_87
  refine KB_bc (kb_F_X9_next.tr kb_rf) (fun _ _ => ?_)
  refine KB_if ?_ ?_
  · skip
    exact (kb_B_X8_builtIn_112 h_ro).tr kb_rf
  · skip
    refine KB_bt (kb_F_X9_refuse.tr kb_rf) (fun _ _ => ?_)
    exact (kb_B_X8_builtIn_112 h_ro).tr kb_rf
theorem kb_B_X8_builtIn_22 {S : Nat → Nat → Prop} {N : Nat} {ro : Nat → Nat → Int32 → Int32 → CSt → Option (Sum Nat Int32 × CSt)} {R_22 : Nat × Int32 × Int32 × Int32 × Int32 × CSt → Option ((Sum Nat Int32) × CSt)} {l1 : Nat} {l2 : Int32} {l3 : Int32} {l4 : Int32} {l5 : Int32} {u : CSt} (h_ro : ∀ q z a b u, KB S (ro q z a b u) u) (h_R_22 : ∀ a, KB S (R_22 a) a.2.2.2.2.2) : KB S (B_X8_builtIn_22 N ro R_22 l1 l2 l3 l4 l5 u) u := by
  unfold B_X8_builtIn_22
  refine KB_if ?_ ?_
  · skip
    exact (kb_B_X8_builtIn_87 h_ro).tr kb_rf
  · skip
    refine KB_bc (kb_F_X9_is.tr kb_rf) (fun _ _ => ?_)
    refine KB_if ?_ ?_
    · skip
      refine KB_if ?_ ?_
      · skip
        exact (kb_B_X8_builtIn_54 h_ro h_R_22).tr kb_rf
      · skip
        refine KB_bc (kb_F_X9_next.tr kb_rf) (fun _ _ => ?_)
        exact (kb_B_X8_builtIn_54 h_ro h_R_22).tr kb_rf
    · skip
      exact (kb_B_X8_builtIn_87 h_ro).tr kb_rf
theorem kb_LP_X8_builtIn_22 {S : Nat → Nat → Prop} {N : Nat} {ro : Nat → Nat → Int32 → Int32 → CSt → Option (Sum Nat Int32 × CSt)} (h_ro : ∀ q z a b u, KB S (ro q z a b u) u) (n : Nat) : ∀ a : Nat × Int32 × Int32 × Int32 × Int32 × CSt, KB S (LP_X8_builtIn_22 N ro n a) a.2.2.2.2.2 := by
  induction n with
  | zero => exact fun a r z e => by have e : (none : Option _) = some (r, z) := e; cases e
  | succ n ih =>
    intro a
    show KB S (B_X8_builtIn_22 N ro (LP_X8_builtIn_22 N ro n) a.1 a.2.1 a.2.2.1 a.2.2.2.1 a.2.2.2.2.1 a.2.2.2.2.2) a.2.2.2.2.2
    exact kb_B_X8_builtIn_22 h_ro ih
theorem kb_B_X8_builtIn_0 {S : Nat → Nat → Prop} {N : Nat} {ro : Nat → Nat → Int32 → Int32 → CSt → Option (Sum Nat Int32 × CSt)} {l1 : Nat} {l2 : Int32} {u : CSt} (h_ro : ∀ q z a b u, KB S (ro q z a b u) u) : KB S (B_X8_builtIn_0 N ro l1 l2 u) u := by
  unfold B_X8_builtIn_0
  refine KB_bc (kb_F_X9_next.tr kb_rf) (fun _ _ => ?_)
  refine KB_bc (kb_F_X9_next.tr kb_rf) (fun _ _ => ?_)
  exact (kb_LP_X8_builtIn_22 h_ro _ _).tr kb_rf
theorem kb_F_X8_builtIn {S : Nat → Nat → Prop} {N : Nat} {ro : Nat → Nat → Int32 → Int32 → CSt → Option (Sum Nat Int32 × CSt)} {l1 : Nat} {l2 : Int32} {u : CSt} (h_ro : ∀ q z a b u, KB S (ro q z a b u) u) : KB S (F_X8_builtIn N ro l1 l2 u) u := by
  unfold F_X8_builtIn
  exact (kb_B_X8_builtIn_0 h_ro).tr kb_rf
theorem kb_B_X8_arguments_147 {S : Nat → Nat → Prop} {N : Nat} {ro : Nat → Nat → Int32 → Int32 → CSt → Option (Sum Nat Int32 × CSt)} {R_17 : Nat × Int32 × Int32 × Int32 × CSt → Option ((Sum Nat Int32) × CSt)} {l1 : Nat} {l2 : Int32} {l3 : Int32} {l4 : Int32} {u : CSt} (h_ro : ∀ q z a b u, KB S (ro q z a b u) u) (h_R_17 : ∀ a, KB S (R_17 a) a.2.2.2.2) : KB S (B_X8_arguments_147 N ro R_17 l1 l2 l3 l4 u) u := by
  unfold B_X8_arguments_147
  exact (h_R_17 _).tr kb_rf
theorem kb_B_X8_arguments_109 {S : Nat → Nat → Prop} {N : Nat} {ro : Nat → Nat → Int32 → Int32 → CSt → Option (Sum Nat Int32 × CSt)} {R_17 : Nat × Int32 × Int32 × Int32 × CSt → Option ((Sum Nat Int32) × CSt)} {l1 : Nat} {l2 : Int32} {l3 : Int32} {l4 : Int32} {l5 : Int32} {l7 : Nat} {u : CSt} (h_ro : ∀ q z a b u, KB S (ro q z a b u) u) (h_R_17 : ∀ a, KB S (R_17 a) a.2.2.2.2) : KB S (B_X8_arguments_109 N ro R_17 l1 l2 l3 l4 l5 l7 u) u := by
  unfold B_X8_arguments_109
  refine KB_if ?_ ?_
  · skip
    refine KB_if ?_ ?_
    · skip
      exact (kb_B_X8_arguments_147 h_ro h_R_17).tr kb_rf
    · skip
      refine KB_ok ?_
      refine KB_bc (kb_F_X6_step.tr kb_rf) (fun _ _ => ?_)
      exact (kb_B_X8_arguments_147 h_ro h_R_17).tr kb_rf
  · skip
    exact (kb_B_X8_arguments_147 h_ro h_R_17).tr kb_rf
theorem kb_B_X8_arguments_49 {S : Nat → Nat → Prop} {N : Nat} {ro : Nat → Nat → Int32 → Int32 → CSt → Option (Sum Nat Int32 × CSt)} {R_17 : Nat × Int32 × Int32 × Int32 × CSt → Option ((Sum Nat Int32) × CSt)} {l1 : Nat} {l2 : Int32} {l3 : Int32} {l4 : Int32} {u : CSt} (h_ro : ∀ q z a b u, KB S (ro q z a b u) u) (h_R_17 : ∀ a, KB S (R_17 a) a.2.2.2.2) : KB S (B_X8_arguments_49 N ro R_17 l1 l2 l3 l4 u) u := by
  unfold B_X8_arguments_49
  refine KB_bc (kb_F_X9_here.tr kb_rf) (fun _ _ => ?_)
  refine KB_bt ((h_ro _ _ _ _ _).tr kb_rf) (fun _ _ => ?_)
  refine KB_ok ?_
  refine KB_bc (kb_F_X6_local.tr kb_rf) (fun _ _ => ?_)
  refine KB_ok ?_
  refine KB_if ?_ ?_
  · skip
    refine KB_bc (kb_F_X8_isTooWide.tr kb_rf) (fun _ _ => ?_)
    refine KB_if ?_ ?_
    · skip
      exact (kb_B_X8_arguments_109 h_ro h_R_17).tr kb_rf
    · skip
      refine KB_bt (kb_F_X9_refuse.tr kb_rf) (fun _ _ => ?_)
      exact (kb_B_X8_arguments_109 h_ro h_R_17).tr kb_rf
  · skip
    exact (kb_B_X8_arguments_109 h_ro h_R_17).tr kb_rf
theorem kb_B_X8_arguments_153 {S : Nat → Nat → Prop} {N : Nat} {ro : Nat → Nat → Int32 → Int32 → CSt → Option (Sum Nat Int32 × CSt)} {l1 : Nat} {l3 : Int32} {l4 : Int32} {u : CSt} (h_ro : ∀ q z a b u, KB S (ro q z a b u) u) : KB S (B_X8_arguments_153 N ro l1 l3 l4 u) u := by
  unfold B_X8_arguments_153
  refine KB_bc (kb_F_X9_next.tr kb_rf) (fun _ _ => ?_)
  refine KB_if ?_ ?_
  · skip
    exact KB_some kb_rf
  · skip
    refine KB_bt (kb_F_X9_refuse.tr kb_rf) (fun _ _ => ?_)
    exact KB_some kb_rf
theorem kb_B_X8_arguments_17 {S : Nat → Nat → Prop} {N : Nat} {ro : Nat → Nat → Int32 → Int32 → CSt → Option (Sum Nat Int32 × CSt)} {R_17 : Nat × Int32 × Int32 × Int32 × CSt → Option ((Sum Nat Int32) × CSt)} {l1 : Nat} {l2 : Int32} {l3 : Int32} {l4 : Int32} {u : CSt} (h_ro : ∀ q z a b u, KB S (ro q z a b u) u) (h_R_17 : ∀ a, KB S (R_17 a) a.2.2.2.2) : KB S (B_X8_arguments_17 N ro R_17 l1 l2 l3 l4 u) u := by
  unfold B_X8_arguments_17
  refine KB_if ?_ ?_
  · skip
    exact (kb_B_X8_arguments_153 h_ro).tr kb_rf
  · skip
    refine KB_bc (kb_F_X9_is.tr kb_rf) (fun _ _ => ?_)
    refine KB_if ?_ ?_
    · skip
      refine KB_if ?_ ?_
      · skip
        exact (kb_B_X8_arguments_49 h_ro h_R_17).tr kb_rf
      · skip
        refine KB_bc (kb_F_X9_next.tr kb_rf) (fun _ _ => ?_)
        exact (kb_B_X8_arguments_49 h_ro h_R_17).tr kb_rf
    · skip
      exact (kb_B_X8_arguments_153 h_ro).tr kb_rf
theorem kb_LP_X8_arguments_17 {S : Nat → Nat → Prop} {N : Nat} {ro : Nat → Nat → Int32 → Int32 → CSt → Option (Sum Nat Int32 × CSt)} (h_ro : ∀ q z a b u, KB S (ro q z a b u) u) (n : Nat) : ∀ a : Nat × Int32 × Int32 × Int32 × CSt, KB S (LP_X8_arguments_17 N ro n a) a.2.2.2.2 := by
  induction n with
  | zero => exact fun a r z e => by have e : (none : Option _) = some (r, z) := e; cases e
  | succ n ih =>
    intro a
    show KB S (B_X8_arguments_17 N ro (LP_X8_arguments_17 N ro n) a.1 a.2.1 a.2.2.1 a.2.2.2.1 a.2.2.2.2) a.2.2.2.2
    exact kb_B_X8_arguments_17 h_ro ih
theorem kb_B_X8_arguments_0 {S : Nat → Nat → Prop} {N : Nat} {ro : Nat → Nat → Int32 → Int32 → CSt → Option (Sum Nat Int32 × CSt)} {l1 : Nat} {l2 : Int32} {l3 : Int32} {u : CSt} (h_ro : ∀ q z a b u, KB S (ro q z a b u) u) : KB S (B_X8_arguments_0 N ro l1 l2 l3 u) u := by
  unfold B_X8_arguments_0
  refine KB_bc (kb_F_X9_next.tr kb_rf) (fun _ _ => ?_)
  refine KB_bc (kb_F_X9_next.tr kb_rf) (fun _ _ => ?_)
  exact (kb_LP_X8_arguments_17 h_ro _ _).tr kb_rf
theorem kb_F_X8_arguments {S : Nat → Nat → Prop} {N : Nat} {ro : Nat → Nat → Int32 → Int32 → CSt → Option (Sum Nat Int32 × CSt)} {l1 : Nat} {l2 : Int32} {l3 : Int32} {u : CSt} (h_ro : ∀ q z a b u, KB S (ro q z a b u) u) : KB S (F_X8_arguments N ro l1 l2 l3 u) u := by
  unfold F_X8_arguments
  exact (kb_B_X8_arguments_0 h_ro).tr kb_rf
theorem kb_B_X8_index_22 {S : Nat → Nat → Prop} {N : Nat} {ro : Nat → Nat → Int32 → Int32 → CSt → Option (Sum Nat Int32 × CSt)} {l1 : Nat} {l2 : Int32} {s0 : Nat} {s1 : Int32} {u : CSt} (h_ro : ∀ q z a b u, KB S (ro q z a b u) u) : KB S (B_X8_index_22 N ro l1 l2 s0 s1 u) u := by
  unfold B_X8_index_22
  refine KB_bc (kb_F_X6_step.tr kb_rf) (fun _ _ => ?_)
  exact KB_some kb_rf
theorem kb_B_X8_index_0 {S : Nat → Nat → Prop} {N : Nat} {ro : Nat → Nat → Int32 → Int32 → CSt → Option (Sum Nat Int32 × CSt)} {l1 : Nat} {l2 : Int32} {u : CSt} (h_ro : ∀ q z a b u, KB S (ro q z a b u) u) : KB S (B_X8_index_0 N ro l1 l2 u) u := by
  unfold B_X8_index_0
  refine KB_bt ((h_ro _ _ _ _ _).tr kb_rf) (fun _ _ => ?_)
  refine KB_ok ?_
  refine KB_bc (kb_F_X4_isLocal.tr kb_rf) (fun _ _ => ?_)
  refine KB_if ?_ ?_
  · skip
    exact (kb_B_X8_index_22 h_ro).tr kb_rf
  · skip
    exact (kb_B_X8_index_22 h_ro).tr kb_rf
theorem kb_F_X8_index {S : Nat → Nat → Prop} {N : Nat} {ro : Nat → Nat → Int32 → Int32 → CSt → Option (Sum Nat Int32 × CSt)} {l1 : Nat} {l2 : Int32} {u : CSt} (h_ro : ∀ q z a b u, KB S (ro q z a b u) u) : KB S (F_X8_index N ro l1 l2 u) u := by
  unfold F_X8_index
  exact (kb_B_X8_index_0 h_ro).tr kb_rf
theorem kb_B_X8_indexNumber_32 {S : Nat → Nat → Prop} {N : Nat} {ro : Nat → Nat → Int32 → Int32 → CSt → Option (Sum Nat Int32 × CSt)} {u : CSt} (h_ro : ∀ q z a b u, KB S (ro q z a b u) u) : KB S (B_X8_indexNumber_32 N ro u) u := by
  unfold B_X8_indexNumber_32
  refine KB_bc (kb_F_X9_next.tr kb_rf) (fun _ _ => ?_)
  exact KB_some kb_rf
theorem kb_B_X8_indexNumber_0 {S : Nat → Nat → Prop} {N : Nat} {ro : Nat → Nat → Int32 → Int32 → CSt → Option (Sum Nat Int32 × CSt)} {u : CSt} (h_ro : ∀ q z a b u, KB S (ro q z a b u) u) : KB S (B_X8_indexNumber_0 N ro u) u := by
  unfold B_X8_indexNumber_0
  refine KB_bc (kb_F_X9_next.tr kb_rf) (fun _ _ => ?_)
  refine KB_bc (kb_F_X9_here.tr kb_rf) (fun _ _ => ?_)
  refine KB_bt ((h_ro _ _ _ _ _).tr kb_rf) (fun _ _ => ?_)
  refine KB_if ?_ ?_
  · skip
    refine KB_bt (kb_F_X9_refuse.tr kb_rf) (fun _ _ => ?_)
    exact (kb_B_X8_indexNumber_32 h_ro).tr kb_rf
  · skip
    exact (kb_B_X8_indexNumber_32 h_ro).tr kb_rf
theorem kb_F_X8_indexNumber {S : Nat → Nat → Prop} {N : Nat} {ro : Nat → Nat → Int32 → Int32 → CSt → Option (Sum Nat Int32 × CSt)} {u : CSt} (h_ro : ∀ q z a b u, KB S (ro q z a b u) u) : KB S (F_X8_indexNumber N ro u) u := by
  unfold F_X8_indexNumber
  exact (kb_B_X8_indexNumber_0 h_ro).tr kb_rf
theorem kb_FTE_ {S : Nat → Nat → Prop} {N : Nat} : ∀ (d q z : Nat) (a b : Int32) (u : CSt), KB S (FTE_ N d q z a b u) u := by
  intro d
  induction d with
  | zero => exact fun q z a b u => KB_none
  | succ d ih =>
    intro q z a b u
    show KB S (if q = 0 then F_X8_expression N (FTE_ N d) u else if q = 1 then F_X8_operators N (FTE_ N d) u else if q = 2 then F_X8_operand N (FTE_ N d) u else if q = 3 then F_X8_signed N (FTE_ N d) a u else if q = 4 then F_X8_bracket N (FTE_ N d) a u else if q = 5 then F_X8_named N (FTE_ N d) a u else if q = 6 then F_X8_ofPlace N (FTE_ N d) a u else if q = 7 then F_X8_ofInstance N (FTE_ N d) a u else if q = 8 then F_X8_called N (FTE_ N d) a u else if q = 9 then F_X8_builtIn N (FTE_ N d) z a u else if q = 10 then F_X8_arguments N (FTE_ N d) z a b u else if q = 11 then F_X8_index N (FTE_ N d) z a u else if q = 12 then F_X8_indexNumber N (FTE_ N d) u else none) u
    refine KB_if (kb_F_X8_expression ih) ?_
    refine KB_if (kb_F_X8_operators ih) ?_
    refine KB_if (kb_F_X8_operand ih) ?_
    refine KB_if (kb_F_X8_signed ih) ?_
    refine KB_if (kb_F_X8_bracket ih) ?_
    refine KB_if (kb_F_X8_named ih) ?_
    refine KB_if (kb_F_X8_ofPlace ih) ?_
    refine KB_if (kb_F_X8_ofInstance ih) ?_
    refine KB_if (kb_F_X8_called ih) ?_
    refine KB_if (kb_F_X8_builtIn ih) ?_
    refine KB_if (kb_F_X8_arguments ih) ?_
    refine KB_if (kb_F_X8_index ih) ?_
    refine KB_if (kb_F_X8_indexNumber ih) ?_
    exact KB_none
theorem kb_G_X8_expression {S : Nat → Nat → Prop} {N : Nat} {u : CSt} : KB S (G_X8_expression N u) u := kb_FTE_ _ _ _ _ _ _
theorem kb_G_X8_arguments {S : Nat → Nat → Prop} {N : Nat} {l1 : Nat} {l2 : Int32} {l3 : Int32} {u : CSt} : KB S (G_X8_arguments N l1 l2 l3 u) u := kb_FTE_ _ _ _ _ _ _
theorem kb_G_X8_index {S : Nat → Nat → Prop} {N : Nat} {l1 : Nat} {l2 : Int32} {u : CSt} : KB S (G_X8_index N l1 l2 u) u := kb_FTE_ _ _ _ _ _ _
theorem kb_B_X3_allot_0 {S : Nat → Nat → Prop} {N : Nat} {l1 : Int32} {l2 : Int32} {l3 : Int32} {u : CSt}  : KB S (B_X3_allot_0 N l1 l2 l3 u) u := by
  unfold B_X3_allot_0
  refine KB_rd (fun _ => ?_)
  refine KB_wc ?_
  refine KB_pc ?_
  refine KB_rd (fun _ => ?_)
  refine KB_if ?_ ?_
  · skip
    exact KB_some (fb_xI (fb_xA kb_rf))
  · skip
    refine KB_bt (kb_F_X9_refuse.tr (fb_xI (fb_xA kb_rf))) (fun _ _ => ?_)
    exact KB_some kb_rf
theorem kb_F_X3_allot {S : Nat → Nat → Prop} {N : Nat} {l1 : Int32} {l2 : Int32} {l3 : Int32} {u : CSt}  : KB S (F_X3_allot N l1 l2 l3 u) u := by
  unfold F_X3_allot
  exact kb_B_X3_allot_0.tr kb_rf
theorem kb_B_X3_constant_60 {S : Nat → Nat → Prop} {N : Nat} {l1 : Int32} {l3 : Int32} {l5 : Int64} {u : CSt}  : KB S (B_X3_constant_60 N l1 l3 l5 u) u := by
  unfold B_X3_constant_60
  refine KB_if ?_ ?_
  · skip
    refine KB_bt (kb_F_X9_refuse.tr kb_rf) (fun _ _ => ?_)
    exact KB_some kb_rf
  · skip
    exact KB_some kb_rf
theorem kb_B_X3_constant_21 {S : Nat → Nat → Prop} {N : Nat} {l1 : Int32} {l2 : Int32} {u : CSt}  : KB S (B_X3_constant_21 N l1 l2 u) u := by
  unfold B_X3_constant_21
  refine KB_bc (kb_F_X9_here.tr kb_rf) (fun _ _ => ?_)
  refine KB_bc (kb_F_X9_isWide.tr kb_rf) (fun _ _ => ?_)
  refine KB_bt (kb_F_X9_takeNumber.tr kb_rf) (fun _ _ => ?_)
  refine KB_if ?_ ?_
  · skip
    exact kb_B_X3_constant_60.tr kb_rf
  · skip
    exact kb_B_X3_constant_60.tr kb_rf
theorem kb_B_X3_constant_0 {S : Nat → Nat → Prop} {N : Nat} {l1 : Int32} {u : CSt}  : KB S (B_X3_constant_0 N l1 u) u := by
  unfold B_X3_constant_0
  refine KB_bc (kb_F_X9_is.tr kb_rf) (fun _ _ => ?_)
  refine KB_if ?_ ?_
  · skip
    exact kb_B_X3_constant_21.tr kb_rf
  · skip
    refine KB_bc (kb_F_X9_next.tr kb_rf) (fun _ _ => ?_)
    exact kb_B_X3_constant_21.tr kb_rf
theorem kb_F_X3_constant {S : Nat → Nat → Prop} {N : Nat} {l1 : Int32} {u : CSt}  : KB S (F_X3_constant N l1 u) u := by
  unfold F_X3_constant
  exact kb_B_X3_constant_0.tr kb_rf
theorem kb_B_X3_put_0 {S : Nat → Nat → Prop} {N : Nat} {l1 : Nat} {l2 : Int32} {u : CSt}  : KB S (B_X3_put_0 N l1 l2 u) u := by
  unfold B_X3_put_0
  refine KB_if ?_ ?_
  · skip
    refine KB_bc (kb_F_X8_set.tr kb_rf) (fun _ _ => ?_)
    exact KB_some kb_rf
  · skip
    refine KB_ok ?_
    refine KB_bc (kb_F_X6_step.tr kb_rf) (fun _ _ => ?_)
    exact KB_some kb_rf
theorem kb_F_X3_put {S : Nat → Nat → Prop} {N : Nat} {l1 : Nat} {l2 : Int32} {u : CSt}  : KB S (F_X3_put N l1 l2 u) u := by
  unfold F_X3_put
  exact kb_B_X3_put_0.tr kb_rf
theorem kb_B_X3_setPlain_0 {S : Nat → Nat → Prop} {N : Nat} {l1 : Nat} {u : CSt}  : KB S (B_X3_setPlain_0 N l1 u) u := by
  unfold B_X3_setPlain_0
  refine KB_bc (kb_F_X9_here.tr kb_rf) (fun _ _ => ?_)
  refine KB_bc (kb_F_X9_next.tr kb_rf) (fun _ _ => ?_)
  refine KB_bt (kb_G_X8_expression.tr kb_rf) (fun _ _ => ?_)
  refine KB_bc (kb_F_X8_isTooWide.tr kb_rf) (fun _ _ => ?_)
  refine KB_if ?_ ?_
  · skip
    exact KB_some kb_rf
  · skip
    refine KB_bt (kb_F_X9_refuse.tr kb_rf) (fun _ _ => ?_)
    exact KB_some kb_rf
theorem kb_F_X3_setPlain {S : Nat → Nat → Prop} {N : Nat} {l1 : Nat} {u : CSt}  : KB S (F_X3_setPlain N l1 u) u := by
  unfold F_X3_setPlain
  exact kb_B_X3_setPlain_0.tr kb_rf
theorem kb_B_X3_setBit_75 {S : Nat → Nat → Prop} {N : Nat} {l1 : Nat} {l2 : Int32} {l3 : Int32} {u : CSt}  : KB S (B_X3_setBit_75 N l1 l2 l3 u) u := by
  unfold B_X3_setBit_75
  refine KB_ok ?_
  refine KB_bc (kb_F_X6_step.tr kb_rf) (fun _ _ => ?_)
  refine KB_bc (kb_F_X3_put.tr kb_rf) (fun _ _ => ?_)
  exact KB_some kb_rf
theorem kb_B_X3_setBit_27 {S : Nat → Nat → Prop} {N : Nat} {l1 : Nat} {l2 : Int32} {l3 : Int32} {u : CSt}  : KB S (B_X3_setBit_27 N l1 l2 l3 u) u := by
  unfold B_X3_setBit_27
  refine KB_bc (kb_F_X9_next.tr kb_rf) (fun _ _ => ?_)
  refine KB_bt (kb_G_X8_expression.tr kb_rf) (fun _ _ => ?_)
  refine KB_if ?_ ?_
  · skip
    refine KB_bc (kb_F_X8_get.tr kb_rf) (fun _ _ => ?_)
    exact kb_B_X3_setBit_75.tr kb_rf
  · skip
    refine KB_ok ?_
    refine KB_bc (kb_F_X6_step.tr kb_rf) (fun _ _ => ?_)
    exact kb_B_X3_setBit_75.tr kb_rf
theorem kb_B_X3_setBit_0 {S : Nat → Nat → Prop} {N : Nat} {l1 : Nat} {l2 : Int32} {l3 : Int32} {u : CSt}  : KB S (B_X3_setBit_0 N l1 l2 l3 u) u := by
  unfold B_X3_setBit_0
  refine KB_bc (kb_F_X9_is.tr kb_rf) (fun _ _ => ?_)
  refine KB_if ?_ ?_
  · skip
    refine KB_bc (kb_F_X9_here.tr kb_rf) (fun _ _ => ?_)
    refine KB_bt (kb_F_X9_refuse.tr kb_rf) (fun _ _ => ?_)
    exact kb_B_X3_setBit_27.tr kb_rf
  · skip
    exact kb_B_X3_setBit_27.tr kb_rf
theorem kb_F_X3_setBit {S : Nat → Nat → Prop} {N : Nat} {l1 : Nat} {l2 : Int32} {l3 : Int32} {u : CSt}  : KB S (F_X3_setBit N l1 l2 l3 u) u := by
  unfold F_X3_setBit
  exact kb_B_X3_setBit_0.tr kb_rf
theorem kb_B_X3_change_98 {S : Nat → Nat → Prop} {N : Nat} {l1 : Nat} {l4 : Int32} {s1 : Int32} {u : CSt}  : KB S (B_X3_change_98 N l1 l4 s1 u) u := by
  unfold B_X3_change_98
  refine KB_bc (kb_F_X8_combine.tr kb_rf) (fun _ _ => ?_)
  exact KB_some kb_rf
theorem kb_B_X3_change_71 {S : Nat → Nat → Prop} {N : Nat} {l1 : Nat} {l3 : Int32} {l4 : Int32} {u : CSt}  : KB S (B_X3_change_71 N l1 l3 l4 u) u := by
  unfold B_X3_change_71
  refine KB_ok ?_
  refine KB_bc (kb_F_X6_constant.tr kb_rf) (fun _ _ => ?_)
  refine KB_if ?_ ?_
  · skip
    exact kb_B_X3_change_98.tr kb_rf
  · skip
    exact kb_B_X3_change_98.tr kb_rf
theorem kb_B_X3_change_50 {S : Nat → Nat → Prop} {N : Nat} {l1 : Nat} {l3 : Int32} {l4 : Int32} {u : CSt}  : KB S (B_X3_change_50 N l1 l3 l4 u) u := by
  unfold B_X3_change_50
  refine KB_bc (kb_F_X9_next.tr kb_rf) (fun _ _ => ?_)
  refine KB_if ?_ ?_
  · skip
    exact kb_B_X3_change_71.tr kb_rf
  · skip
    refine KB_if ?_ ?_
    · skip
      exact kb_B_X3_change_71.tr kb_rf
    · skip
      refine KB_bt (kb_G_X8_expression.tr kb_rf) (fun _ _ => ?_)
      refine KB_pb (fun _ => ?_)
      refine KB_bc (kb_F_X8_combine.tr kb_rf) (fun _ _ => ?_)
      exact KB_some kb_rf
theorem kb_B_X3_change_0 {S : Nat → Nat → Prop} {N : Nat} {l1 : Nat} {l2 : Int32} {u : CSt}  : KB S (B_X3_change_0 N l1 l2 u) u := by
  unfold B_X3_change_0
  refine KB_bc (kb_F_X9_type.tr kb_rf) (fun _ _ => ?_)
  refine KB_bc (kb_F_X9_here.tr kb_rf) (fun _ _ => ?_)
  refine KB_if ?_ ?_
  · skip
    refine KB_bc (kb_F_X8_get.tr kb_rf) (fun _ _ => ?_)
    exact kb_B_X3_change_50.tr kb_rf
  · skip
    refine KB_ok ?_
    refine KB_bc (kb_F_X6_step.tr kb_rf) (fun _ _ => ?_)
    exact kb_B_X3_change_50.tr kb_rf
theorem kb_F_X3_change {S : Nat → Nat → Prop} {N : Nat} {l1 : Nat} {l2 : Int32} {u : CSt}  : KB S (F_X3_change N l1 l2 u) u := by
  unfold F_X3_change
  exact kb_B_X3_change_0.tr kb_rf
theorem kb_B_X3_assignment_104 {S : Nat → Nat → Prop} {N : Nat} {u : CSt}  : KB S (B_X3_assignment_104 N u) u := by
  unfold B_X3_assignment_104
  refine KB_bc (kb_F_X9_next.tr kb_rf) (fun _ _ => ?_)
  exact KB_some kb_rf
theorem kb_B_X3_assignment_32 {S : Nat → Nat → Prop} {N : Nat} {l1 : Int32} {l2 : Nat} {u : CSt}  : KB S (B_X3_assignment_32 N l1 l2 u) u := by
  unfold B_X3_assignment_32
  refine KB_bc (kb_F_X9_is.tr kb_rf) (fun _ _ => ?_)
  refine KB_if ?_ ?_
  · skip
    refine KB_bc (kb_F_X9_is.tr kb_rf) (fun _ _ => ?_)
    refine KB_if ?_ ?_
    · skip
      refine KB_bt (kb_F_X3_change.tr kb_rf) (fun _ _ => ?_)
      refine KB_bc (kb_F_X3_put.tr kb_rf) (fun _ _ => ?_)
      exact kb_B_X3_assignment_104.tr kb_rf
    · skip
      refine KB_bt (kb_F_X3_setPlain.tr kb_rf) (fun _ _ => ?_)
      refine KB_bc (kb_F_X3_put.tr kb_rf) (fun _ _ => ?_)
      exact kb_B_X3_assignment_104.tr kb_rf
  · skip
    refine KB_bt (kb_F_X8_bit.tr kb_rf) (fun _ _ => ?_)
    refine KB_bt (kb_F_X3_setBit.tr kb_rf) (fun _ _ => ?_)
    exact kb_B_X3_assignment_104.tr kb_rf
theorem kb_B_X3_assignment_0 {S : Nat → Nat → Prop} {N : Nat} {l1 : Int32} {u : CSt}  : KB S (B_X3_assignment_0 N l1 u) u := by
  unfold B_X3_assignment_0
  refine KB_bt (kb_F_X8_placeName.tr kb_rf) (fun _ _ => ?_)
  refine KB_ok ?_
  refine KB_bc (kb_F_X9_next.tr kb_rf) (fun _ _ => ?_)
  refine KB_if ?_ ?_
  · skip
    exact kb_B_X3_assignment_32.tr kb_rf
  · skip
    refine KB_bt (kb_G_X8_index.tr kb_rf) (fun _ _ => ?_)
    exact kb_B_X3_assignment_32.tr kb_rf
theorem kb_F_X3_assignment {S : Nat → Nat → Prop} {N : Nat} {l1 : Int32} {u : CSt}  : KB S (F_X3_assignment N l1 u) u := by
  unfold F_X3_assignment
  exact kb_B_X3_assignment_0.tr kb_rf
theorem kb_B_X3_instanceCall_25 {S : Nat → Nat → Prop} {N : Nat} {l1 : Int32} {l2 : Nat} {u : CSt}  : KB S (B_X3_instanceCall_25 N l1 l2 u) u := by
  unfold B_X3_instanceCall_25
  refine KB_ok ?_
  refine KB_bc (kb_F_X6_cost.tr kb_rf) (fun _ _ => ?_)
  refine KB_ok ?_
  refine KB_bc (kb_F_X6_name.tr kb_rf) (fun _ _ => ?_)
  refine KB_ok ?_
  refine KB_bt (kb_G_X8_arguments.tr kb_rf) (fun _ _ => ?_)
  refine KB_ok ?_
  refine KB_bc (kb_F_X6_step.tr kb_rf) (fun _ _ => ?_)
  refine KB_bc (kb_F_X9_next.tr kb_rf) (fun _ _ => ?_)
  exact KB_some kb_rf
theorem kb_B_X3_instanceCall_0 {S : Nat → Nat → Prop} {N : Nat} {l1 : Int32} {u : CSt}  : KB S (B_X3_instanceCall_0 N l1 u) u := by
  unfold B_X3_instanceCall_0
  refine KB_bc (kb_F_X8_known.tr kb_rf) (fun _ _ => ?_)
  refine KB_ok ?_
  refine KB_if ?_ ?_
  · skip
    exact kb_B_X3_instanceCall_25.tr kb_rf
  · skip
    refine KB_bt (kb_F_X9_refuse.tr kb_rf) (fun _ _ => ?_)
    exact kb_B_X3_instanceCall_25.tr kb_rf
theorem kb_F_X3_instanceCall {S : Nat → Nat → Prop} {N : Nat} {l1 : Int32} {u : CSt}  : KB S (F_X3_instanceCall N l1 u) u := by
  unfold F_X3_instanceCall
  exact kb_B_X3_instanceCall_0.tr kb_rf
theorem kb_B_X3_leave_69 {S : Nat → Nat → Prop} {N : Nat} {u : CSt}  : KB S (B_X3_leave_69 N u) u := by
  unfold B_X3_leave_69
  refine KB_bc (kb_F_X9_next.tr kb_rf) (fun _ _ => ?_)
  refine KB_bc (kb_F_X9_next.tr kb_rf) (fun _ _ => ?_)
  exact KB_some kb_rf
theorem kb_B_X3_leave_16 {S : Nat → Nat → Prop} {N : Nat} {l1 : Int32} {u : CSt}  : KB S (B_X3_leave_16 N l1 u) u := by
  unfold B_X3_leave_16
  refine KB_bc (kb_F_X9_is.tr kb_rf) (fun _ _ => ?_)
  refine KB_if ?_ ?_
  · skip
    refine KB_ok ?_
    refine KB_bc (kb_F_X6_step.tr kb_rf) (fun _ _ => ?_)
    refine KB_pc ?_
    exact kb_B_X3_leave_69.tr (fb_xI kb_rf)
  · skip
    refine KB_ok ?_
    refine KB_bc (kb_F_X6_step.tr kb_rf) (fun _ _ => ?_)
    refine KB_pc ?_
    exact kb_B_X3_leave_69.tr (fb_xI kb_rf)
theorem kb_B_X3_leave_0 {S : Nat → Nat → Prop} {N : Nat} {l1 : Int32} {u : CSt}  : KB S (B_X3_leave_0 N l1 u) u := by
  unfold B_X3_leave_0
  refine KB_if ?_ ?_
  · skip
    refine KB_bt (kb_F_X9_refuse.tr kb_rf) (fun _ _ => ?_)
    exact kb_B_X3_leave_16.tr kb_rf
  · skip
    exact kb_B_X3_leave_16.tr kb_rf
theorem kb_F_X3_leave {S : Nat → Nat → Prop} {N : Nat} {l1 : Int32} {u : CSt}  : KB S (F_X3_leave N l1 u) u := by
  unfold F_X3_leave
  exact kb_B_X3_leave_0.tr kb_rf
theorem kb_B_X3_returned_147 {S : Nat → Nat → Prop} {N : Nat} {u : CSt}  : KB S (B_X3_returned_147 N u) u := by
  unfold B_X3_returned_147
  refine KB_bc (kb_F_X9_next.tr kb_rf) (fun _ _ => ?_)
  exact KB_some kb_rf
theorem kb_B_X3_returned_115 {S : Nat → Nat → Prop} {N : Nat} {l1 : Int32} {l3 : Nat} {u : CSt}  : KB S (B_X3_returned_115 N l1 l3 u) u := by
  unfold B_X3_returned_115
  refine KB_ok ?_
  refine KB_bc (kb_F_X6_step.tr kb_rf) (fun _ _ => ?_)
  exact kb_B_X3_returned_147.tr kb_rf
theorem kb_B_X3_returned_60 {S : Nat → Nat → Prop} {N : Nat} {l1 : Int32} {l2 : Int32} {l3 : Nat} {u : CSt}  : KB S (B_X3_returned_60 N l1 l2 l3 u) u := by
  unfold B_X3_returned_60
  refine KB_bc (kb_F_X9_next.tr kb_rf) (fun _ _ => ?_)
  refine KB_if ?_ ?_
  · skip
    refine KB_ok ?_
    refine KB_bc (kb_F_X6_step.tr kb_rf) (fun _ _ => ?_)
    exact kb_B_X3_returned_147.tr kb_rf
  · skip
    refine KB_bc (kb_F_X9_here.tr kb_rf) (fun _ _ => ?_)
    refine KB_bt (kb_G_X8_expression.tr kb_rf) (fun _ _ => ?_)
    refine KB_bc (kb_F_X8_isTooWide.tr kb_rf) (fun _ _ => ?_)
    refine KB_if ?_ ?_
    · skip
      exact kb_B_X3_returned_115.tr kb_rf
    · skip
      refine KB_bt (kb_F_X9_refuse.tr kb_rf) (fun _ _ => ?_)
      exact kb_B_X3_returned_115.tr kb_rf
theorem kb_B_X3_returned_48 {S : Nat → Nat → Prop} {N : Nat} {l1 : Int32} {l2 : Int32} {l3 : Nat} {s0 : Int32} {s1 : Int32} {u : CSt}  : KB S (B_X3_returned_48 N l1 l2 l3 s0 s1 u) u := by
  unfold B_X3_returned_48
  refine KB_if ?_ ?_
  · skip
    exact kb_B_X3_returned_60.tr kb_rf
  · skip
    refine KB_bt (kb_F_X9_refuse.tr kb_rf) (fun _ _ => ?_)
    exact kb_B_X3_returned_60.tr kb_rf
theorem kb_B_X3_returned_18 {S : Nat → Nat → Prop} {N : Nat} {l1 : Int32} {s0 : Int32} {u : CSt}  : KB S (B_X3_returned_18 N l1 s0 u) u := by
  unfold B_X3_returned_18
  refine KB_ok ?_
  refine KB_bc (kb_F_X6_name.tr kb_rf) (fun _ _ => ?_)
  refine KB_ok ?_
  refine KB_if ?_ ?_
  · skip
    exact kb_B_X3_returned_48.tr kb_rf
  · skip
    exact kb_B_X3_returned_48.tr kb_rf
theorem kb_B_X3_returned_0 {S : Nat → Nat → Prop} {N : Nat} {l1 : Int32} {u : CSt}  : KB S (B_X3_returned_0 N l1 u) u := by
  unfold B_X3_returned_0
  refine KB_bc (kb_F_X9_typeAhead.tr kb_rf) (fun _ _ => ?_)
  refine KB_if ?_ ?_
  · skip
    exact kb_B_X3_returned_18.tr kb_rf
  · skip
    exact kb_B_X3_returned_18.tr kb_rf
theorem kb_F_X3_returned {S : Nat → Nat → Prop} {N : Nat} {l1 : Int32} {u : CSt}  : KB S (F_X3_returned N l1 u) u := by
  unfold F_X3_returned
  exact kb_B_X3_returned_0.tr kb_rf
theorem kb_B_X3_labels_90 {S : Nat → Nat → Prop} {N : Nat} {R_2 : Int32 × CSt → Option ((Sum Nat Int32) × CSt)} {l1 : Int32} {l2 : Int64} {l4 : Int64} {u : CSt} (h_R_2 : ∀ a, KB S (R_2 a) a.2) : KB S (B_X3_labels_90 N R_2 l1 l2 l4 u) u := by
  unfold B_X3_labels_90
  refine KB_ok ?_
  refine KB_bc (kb_F_X6_label.tr kb_rf) (fun _ _ => ?_)
  exact (h_R_2 _).tr kb_rf
theorem kb_B_X3_labels_2 {S : Nat → Nat → Prop} {N : Nat} {R_2 : Int32 × CSt → Option ((Sum Nat Int32) × CSt)} {l1 : Int32} {u : CSt} (h_R_2 : ∀ a, KB S (R_2 a) a.2) : KB S (B_X3_labels_2 N R_2 l1 u) u := by
  unfold B_X3_labels_2
  refine KB_if ?_ ?_
  · skip
    exact KB_some kb_rf
  · skip
    refine KB_bc (kb_F_X9_is.tr kb_rf) (fun _ _ => ?_)
    refine KB_if ?_ ?_
    · skip
      refine KB_bc (kb_F_X9_next.tr kb_rf) (fun _ _ => ?_)
      refine KB_bt (kb_F_X3_constant.tr kb_rf) (fun _ _ => ?_)
      refine KB_bc (kb_F_X9_is.tr kb_rf) (fun _ _ => ?_)
      refine KB_if ?_ ?_
      · skip
        exact (kb_B_X3_labels_90 h_R_2).tr kb_rf
      · skip
        refine KB_bc (kb_F_X9_next.tr kb_rf) (fun _ _ => ?_)
        refine KB_bc (kb_F_X9_here.tr kb_rf) (fun _ _ => ?_)
        refine KB_bt (kb_F_X3_constant.tr kb_rf) (fun _ _ => ?_)
        refine KB_if ?_ ?_
        · skip
          exact (kb_B_X3_labels_90 h_R_2).tr kb_rf
        · skip
          refine KB_bt (kb_F_X9_refuse.tr kb_rf) (fun _ _ => ?_)
          exact (kb_B_X3_labels_90 h_R_2).tr kb_rf
    · skip
      exact KB_some kb_rf
theorem kb_LP_X3_labels_2 {S : Nat → Nat → Prop} {N : Nat}  (n : Nat) : ∀ a : Int32 × CSt, KB S (LP_X3_labels_2 N n a) a.2 := by
  induction n with
  | zero => exact fun a r z e => by have e : (none : Option _) = some (r, z) := e; cases e
  | succ n ih =>
    intro a
    show KB S (B_X3_labels_2 N (LP_X3_labels_2 N n) a.1 a.2) a.2
    exact kb_B_X3_labels_2 ih
theorem kb_B_X3_labels_0 {S : Nat → Nat → Prop} {N : Nat} {u : CSt}  : KB S (B_X3_labels_0 N u) u := by
  unfold B_X3_labels_0
  exact (kb_LP_X3_labels_2  _ _).tr kb_rf
theorem kb_F_X3_labels {S : Nat → Nat → Prop} {N : Nat} {u : CSt}  : KB S (F_X3_labels N u) u := by
  unfold F_X3_labels
  exact kb_B_X3_labels_0.tr kb_rf
theorem kb_B_X3_body_0 {S : Nat → Nat → Prop} {N : Nat} {ro : Nat → Nat → Int32 → Int32 → CSt → Option (Sum Nat Int32 × CSt)} {u : CSt} (h_ro : ∀ q z a b u, KB S (ro q z a b u) u) : KB S (B_X3_body_0 N ro u) u := by
  unfold B_X3_body_0
  refine KB_bc (kb_F_X9_next.tr kb_rf) (fun _ _ => ?_)
  refine KB_bt ((h_ro _ _ _ _ _).tr kb_rf) (fun _ _ => ?_)
  exact KB_some kb_rf
theorem kb_F_X3_body {S : Nat → Nat → Prop} {N : Nat} {ro : Nat → Nat → Int32 → Int32 → CSt → Option (Sum Nat Int32 × CSt)} {u : CSt} (h_ro : ∀ q z a b u, KB S (ro q z a b u) u) : KB S (F_X3_body N ro u) u := by
  unfold F_X3_body
  exact (kb_B_X3_body_0 h_ro).tr kb_rf
theorem kb_B_X3_statements_31 {S : Nat → Nat → Prop} {N : Nat} {ro : Nat → Nat → Int32 → Int32 → CSt → Option (Sum Nat Int32 × CSt)} {u : CSt} (h_ro : ∀ q z a b u, KB S (ro q z a b u) u) : KB S (B_X3_statements_31 N ro u) u := by
  unfold B_X3_statements_31
  refine KB_bc (kb_F_X9_here.tr kb_rf) (fun _ _ => ?_)
  refine KB_bc (kb_F_X9_next.tr kb_rf) (fun _ _ => ?_)
  exact KB_some kb_rf
theorem kb_B_X3_statements_2 {S : Nat → Nat → Prop} {N : Nat} {ro : Nat → Nat → Int32 → Int32 → CSt → Option (Sum Nat Int32 × CSt)} {R_2 : Int32 × CSt → Option ((Sum Nat Int32) × CSt)} {l1 : Int32} {u : CSt} (h_ro : ∀ q z a b u, KB S (ro q z a b u) u) (h_R_2 : ∀ a, KB S (R_2 a) a.2) : KB S (B_X3_statements_2 N ro R_2 l1 u) u := by
  unfold B_X3_statements_2
  refine KB_if ?_ ?_
  · skip
    exact (kb_B_X3_statements_31 h_ro).tr kb_rf
  · skip
    refine KB_bc (kb_F_X9_is.tr kb_rf) (fun _ _ => ?_)
    refine KB_if ?_ ?_
    · skip
      refine KB_bt ((h_ro _ _ _ _ _).tr kb_rf) (fun _ _ => ?_)
      exact (h_R_2 _).tr kb_rf
    · skip
      exact (kb_B_X3_statements_31 h_ro).tr kb_rf
theorem kb_LP_X3_statements_2 {S : Nat → Nat → Prop} {N : Nat} {ro : Nat → Nat → Int32 → Int32 → CSt → Option (Sum Nat Int32 × CSt)} (h_ro : ∀ q z a b u, KB S (ro q z a b u) u) (n : Nat) : ∀ a : Int32 × CSt, KB S (LP_X3_statements_2 N ro n a) a.2 := by
  induction n with
  | zero => exact fun a r z e => by have e : (none : Option _) = some (r, z) := e; cases e
  | succ n ih =>
    intro a
    show KB S (B_X3_statements_2 N ro (LP_X3_statements_2 N ro n) a.1 a.2) a.2
    exact kb_B_X3_statements_2 h_ro ih
theorem kb_B_X3_statements_0 {S : Nat → Nat → Prop} {N : Nat} {ro : Nat → Nat → Int32 → Int32 → CSt → Option (Sum Nat Int32 × CSt)} {u : CSt} (h_ro : ∀ q z a b u, KB S (ro q z a b u) u) : KB S (B_X3_statements_0 N ro u) u := by
  unfold B_X3_statements_0
  exact (kb_LP_X3_statements_2 h_ro _ _).tr kb_rf
theorem kb_F_X3_statements {S : Nat → Nat → Prop} {N : Nat} {ro : Nat → Nat → Int32 → Int32 → CSt → Option (Sum Nat Int32 × CSt)} {u : CSt} (h_ro : ∀ q z a b u, KB S (ro q z a b u) u) : KB S (F_X3_statements N ro u) u := by
  unfold F_X3_statements
  exact (kb_B_X3_statements_0 h_ro).tr kb_rf
theorem kb_B_X3_statement_0 {S : Nat → Nat → Prop} {N : Nat} {ro : Nat → Nat → Int32 → Int32 → CSt → Option (Sum Nat Int32 × CSt)} {u : CSt} (h_ro : ∀ q z a b u, KB S (ro q z a b u) u) : KB S (B_X3_statement_0 N ro u) u := by
  unfold B_X3_statement_0
  refine KB_bc (kb_F_X9_here.tr kb_rf) (fun _ _ => ?_)
  refine KB_ok ?_
  refine KB_bc (kb_F_X6_cost.tr kb_rf) (fun _ _ => ?_)
  refine KB_bc (kb_F_X9_type.tr kb_rf) (fun _ _ => ?_)
  refine KB_if ?_ ?_
  · skip
    refine KB_bt ((h_ro _ _ _ _ _).tr kb_rf) (fun _ _ => ?_)
    exact KB_some kb_rf
  · skip
    refine KB_if ?_ ?_
    · skip
      refine KB_bt ((h_ro _ _ _ _ _).tr kb_rf) (fun _ _ => ?_)
      exact KB_some kb_rf
    · skip
      refine KB_if ?_ ?_
      · skip
        refine KB_bt ((h_ro _ _ _ _ _).tr kb_rf) (fun _ _ => ?_)
        exact KB_some kb_rf
      · skip
        refine KB_if ?_ ?_
        · skip
          refine KB_bt ((h_ro _ _ _ _ _).tr kb_rf) (fun _ _ => ?_)
          exact KB_some kb_rf
        · skip
          refine KB_if ?_ ?_
          · skip
            refine KB_bt (kb_F_X3_leave.tr kb_rf) (fun _ _ => ?_)
            exact KB_some kb_rf
          · skip
            refine KB_if ?_ ?_
            · skip
              refine KB_bt (kb_F_X3_leave.tr kb_rf) (fun _ _ => ?_)
              exact KB_some kb_rf
            · skip
              refine KB_if ?_ ?_
              · skip
                refine KB_bt (kb_F_X3_returned.tr kb_rf) (fun _ _ => ?_)
                exact KB_some kb_rf
              · skip
                refine KB_if ?_ ?_
                · skip
                  refine KB_bc (kb_F_X9_next.tr kb_rf) (fun _ _ => ?_)
                  refine KB_bt (kb_G_X8_expression.tr kb_rf) (fun _ _ => ?_)
                  refine KB_ok ?_
                  refine KB_bc (kb_F_X6_step.tr kb_rf) (fun _ _ => ?_)
                  refine KB_bc (kb_F_X9_next.tr kb_rf) (fun _ _ => ?_)
                  exact KB_some kb_rf
                · skip
                  refine KB_bc (kb_F_X9_typeAhead.tr kb_rf) (fun _ _ => ?_)
                  refine KB_if ?_ ?_
                  · skip
                    refine KB_bt (kb_F_X3_instanceCall.tr kb_rf) (fun _ _ => ?_)
                    exact KB_some kb_rf
                  · skip
                    refine KB_bt (kb_F_X3_assignment.tr kb_rf) (fun _ _ => ?_)
                    exact KB_some kb_rf
theorem kb_F_X3_statement {S : Nat → Nat → Prop} {N : Nat} {ro : Nat → Nat → Int32 → Int32 → CSt → Option (Sum Nat Int32 × CSt)} {u : CSt} (h_ro : ∀ q z a b u, KB S (ro q z a b u) u) : KB S (F_X3_statement N ro u) u := by
  unfold F_X3_statement
  exact (kb_B_X3_statement_0 h_ro).tr kb_rf
theorem kb_B_X3_choice_113 {S : Nat → Nat → Prop} {N : Nat} {ro : Nat → Nat → Int32 → Int32 → CSt → Option (Sum Nat Int32 × CSt)} {l2 : Int32} {u : CSt} (h_ro : ∀ q z a b u, KB S (ro q z a b u) u) : KB S (B_X3_choice_113 N ro l2 u) u := by
  unfold B_X3_choice_113
  refine KB_ok ?_
  refine KB_bc (kb_F_X6_land.tr kb_rf) (fun _ _ => ?_)
  exact KB_some kb_rf
theorem kb_B_X3_choice_90 {S : Nat → Nat → Prop} {N : Nat} {ro : Nat → Nat → Int32 → Int32 → CSt → Option (Sum Nat Int32 × CSt)} {l2 : Int32} {u : CSt} (h_ro : ∀ q z a b u, KB S (ro q z a b u) u) : KB S (B_X3_choice_90 N ro l2 u) u := by
  unfold B_X3_choice_90
  refine KB_bc (kb_F_X9_is.tr kb_rf) (fun _ _ => ?_)
  refine KB_if ?_ ?_
  · skip
    exact (kb_B_X3_choice_113 h_ro).tr kb_rf
  · skip
    refine KB_bc (kb_F_X9_next.tr kb_rf) (fun _ _ => ?_)
    refine KB_bt ((h_ro _ _ _ _ _).tr kb_rf) (fun _ _ => ?_)
    exact (kb_B_X3_choice_113 h_ro).tr kb_rf
theorem kb_B_X3_choice_7 {S : Nat → Nat → Prop} {N : Nat} {ro : Nat → Nat → Int32 → Int32 → CSt → Option (Sum Nat Int32 × CSt)} {R_7 : Int32 × Int32 × Int32 × Int32 × CSt → Option ((Sum Nat Int32) × CSt)} {l1 : Int32} {l2 : Int32} {l3 : Int32} {l4 : Int32} {u : CSt} (h_ro : ∀ q z a b u, KB S (ro q z a b u) u) (h_R_7 : ∀ a, KB S (R_7 a) a.2.2.2.2) : KB S (B_X3_choice_7 N ro R_7 l1 l2 l3 l4 u) u := by
  unfold B_X3_choice_7
  refine KB_if ?_ ?_
  · skip
    exact (kb_B_X3_choice_90 h_ro).tr kb_rf
  · skip
    refine KB_if ?_ ?_
    · skip
      exact (kb_B_X3_choice_90 h_ro).tr kb_rf
    · skip
      refine KB_bc (kb_F_X9_next.tr kb_rf) (fun _ _ => ?_)
      refine KB_bt (kb_G_X8_expression.tr kb_rf) (fun _ _ => ?_)
      refine KB_ok ?_
      refine KB_bc (kb_F_X6_step.tr kb_rf) (fun _ _ => ?_)
      refine KB_bt ((h_ro _ _ _ _ _).tr kb_rf) (fun _ _ => ?_)
      refine KB_ok ?_
      refine KB_bc (kb_F_X6_step.tr kb_rf) (fun _ _ => ?_)
      refine KB_ok ?_
      refine KB_bc (kb_F_X6_land.tr kb_rf) (fun _ _ => ?_)
      refine KB_bc (kb_F_X9_is.tr kb_rf) (fun _ _ => ?_)
      exact (h_R_7 _).tr kb_rf
theorem kb_LP_X3_choice_7 {S : Nat → Nat → Prop} {N : Nat} {ro : Nat → Nat → Int32 → Int32 → CSt → Option (Sum Nat Int32 × CSt)} (h_ro : ∀ q z a b u, KB S (ro q z a b u) u) (n : Nat) : ∀ a : Int32 × Int32 × Int32 × Int32 × CSt, KB S (LP_X3_choice_7 N ro n a) a.2.2.2.2 := by
  induction n with
  | zero => exact fun a r z e => by have e : (none : Option _) = some (r, z) := e; cases e
  | succ n ih =>
    intro a
    show KB S (B_X3_choice_7 N ro (LP_X3_choice_7 N ro n) a.1 a.2.1 a.2.2.1 a.2.2.2.1 a.2.2.2.2) a.2.2.2.2
    exact kb_B_X3_choice_7 h_ro ih
theorem kb_B_X3_choice_0 {S : Nat → Nat → Prop} {N : Nat} {ro : Nat → Nat → Int32 → Int32 → CSt → Option (Sum Nat Int32 × CSt)} {l1 : Int32} {u : CSt} (h_ro : ∀ q z a b u, KB S (ro q z a b u) u) : KB S (B_X3_choice_0 N ro l1 u) u := by
  unfold B_X3_choice_0
  exact (kb_LP_X3_choice_7 h_ro _ _).tr kb_rf
theorem kb_F_X3_choice {S : Nat → Nat → Prop} {N : Nat} {ro : Nat → Nat → Int32 → Int32 → CSt → Option (Sum Nat Int32 × CSt)} {l1 : Int32} {u : CSt} (h_ro : ∀ q z a b u, KB S (ro q z a b u) u) : KB S (F_X3_choice N ro l1 u) u := by
  unfold F_X3_choice
  exact (kb_B_X3_choice_0 h_ro).tr kb_rf
theorem kb_B_X3_loop_0 {S : Nat → Nat → Prop} {N : Nat} {ro : Nat → Nat → Int32 → Int32 → CSt → Option (Sum Nat Int32 × CSt)} {l1 : Int32} {u : CSt} (h_ro : ∀ q z a b u, KB S (ro q z a b u) u) : KB S (B_X3_loop_0 N ro l1 u) u := by
  unfold B_X3_loop_0
  refine KB_bc (kb_F_X9_next.tr kb_rf) (fun _ _ => ?_)
  refine KB_ok ?_
  refine KB_bt (kb_G_X8_expression.tr kb_rf) (fun _ _ => ?_)
  refine KB_ok ?_
  refine KB_bc (kb_F_X6_step.tr kb_rf) (fun _ _ => ?_)
  refine KB_pc ?_
  refine KB_bt ((h_ro _ _ _ _ _).tr (fb_xI kb_rf)) (fun _ _ => ?_)
  refine KB_ok ?_
  refine KB_bc (kb_F_X6_step.tr kb_rf) (fun _ _ => ?_)
  refine KB_ok ?_
  refine KB_bc (kb_F_X6_land.tr kb_rf) (fun _ _ => ?_)
  refine KB_pc ?_
  exact KB_some (fb_xI kb_rf)
theorem kb_F_X3_loop {S : Nat → Nat → Prop} {N : Nat} {ro : Nat → Nat → Int32 → Int32 → CSt → Option (Sum Nat Int32 × CSt)} {l1 : Int32} {u : CSt} (h_ro : ∀ q z a b u, KB S (ro q z a b u) u) : KB S (F_X3_loop N ro l1 u) u := by
  unfold F_X3_loop
  exact (kb_B_X3_loop_0 h_ro).tr kb_rf
theorem kb_B_X3_round_0 {S : Nat → Nat → Prop} {N : Nat} {ro : Nat → Nat → Int32 → Int32 → CSt → Option (Sum Nat Int32 × CSt)} {l1 : Int32} {u : CSt} (h_ro : ∀ q z a b u, KB S (ro q z a b u) u) : KB S (B_X3_round_0 N ro l1 u) u := by
  unfold B_X3_round_0
  refine KB_pc ?_
  refine KB_pc ?_
  refine KB_ok ?_
  refine KB_bc (kb_F_X6_cost.tr (fb_xI (fb_xI kb_rf))) (fun _ _ => ?_)
  refine KB_bt ((h_ro _ _ _ _ _).tr kb_rf) (fun _ _ => ?_)
  refine KB_pc ?_
  refine KB_ok ?_
  refine KB_bc (kb_F_X6_land.tr (fb_xI kb_rf)) (fun _ _ => ?_)
  refine KB_pc ?_
  exact KB_some (fb_xI kb_rf)
theorem kb_F_X3_round {S : Nat → Nat → Prop} {N : Nat} {ro : Nat → Nat → Int32 → Int32 → CSt → Option (Sum Nat Int32 × CSt)} {l1 : Int32} {u : CSt} (h_ro : ∀ q z a b u, KB S (ro q z a b u) u) : KB S (F_X3_round N ro l1 u) u := by
  unfold F_X3_round
  exact (kb_B_X3_round_0 h_ro).tr kb_rf
theorem kb_B_X3_counted_71 {S : Nat → Nat → Prop} {N : Nat} {ro : Nat → Nat → Int32 → Int32 → CSt → Option (Sum Nat Int32 × CSt)} {l1 : Int32} {l2 : Int32} {l3 : Nat} {u : CSt} (h_ro : ∀ q z a b u, KB S (ro q z a b u) u) : KB S (B_X3_counted_71 N ro l1 l2 l3 u) u := by
  unfold B_X3_counted_71
  refine KB_bc (kb_F_X9_next.tr kb_rf) (fun _ _ => ?_)
  refine KB_bt (kb_F_X3_setPlain.tr kb_rf) (fun _ _ => ?_)
  refine KB_bc (kb_F_X8_set.tr kb_rf) (fun _ _ => ?_)
  refine KB_bc (kb_F_X9_next.tr kb_rf) (fun _ _ => ?_)
  refine KB_bt (kb_G_X8_expression.tr kb_rf) (fun _ _ => ?_)
  refine KB_ok ?_
  refine KB_bc (kb_F_X8_get.tr kb_rf) (fun _ _ => ?_)
  refine KB_ok ?_
  refine KB_bc (kb_F_X6_step.tr kb_rf) (fun _ _ => ?_)
  refine KB_pc ?_
  refine KB_bt ((h_ro _ _ _ _ _).tr (fb_xI kb_rf)) (fun _ _ => ?_)
  refine KB_bc (kb_F_X8_get.tr kb_rf) (fun _ _ => ?_)
  refine KB_ok ?_
  refine KB_bc (kb_F_X6_step.tr kb_rf) (fun _ _ => ?_)
  refine KB_pc ?_
  refine KB_bc (kb_F_X8_get.tr (fb_xI kb_rf)) (fun _ _ => ?_)
  refine KB_ok ?_
  refine KB_bc (kb_F_X6_constant.tr kb_rf) (fun _ _ => ?_)
  refine KB_bc (kb_F_X8_combine.tr kb_rf) (fun _ _ => ?_)
  refine KB_bc (kb_F_X8_set.tr kb_rf) (fun _ _ => ?_)
  refine KB_ok ?_
  refine KB_bc (kb_F_X6_step.tr kb_rf) (fun _ _ => ?_)
  refine KB_ok ?_
  refine KB_bc (kb_F_X6_land.tr kb_rf) (fun _ _ => ?_)
  refine KB_pc ?_
  refine KB_ok ?_
  refine KB_bc (kb_F_X6_step.tr (fb_xI kb_rf)) (fun _ _ => ?_)
  exact KB_some kb_rf
theorem kb_B_X3_counted_62 {S : Nat → Nat → Prop} {N : Nat} {ro : Nat → Nat → Int32 → Int32 → CSt → Option (Sum Nat Int32 × CSt)} {l1 : Int32} {l2 : Int32} {l3 : Nat} {u : CSt} (h_ro : ∀ q z a b u, KB S (ro q z a b u) u) : KB S (B_X3_counted_62 N ro l1 l2 l3 u) u := by
  unfold B_X3_counted_62
  refine KB_bt (kb_F_X9_refuse.tr kb_rf) (fun _ _ => ?_)
  exact (kb_B_X3_counted_71 h_ro).tr kb_rf
theorem kb_B_X3_counted_41 {S : Nat → Nat → Prop} {N : Nat} {ro : Nat → Nat → Int32 → Int32 → CSt → Option (Sum Nat Int32 × CSt)} {l1 : Int32} {l2 : Int32} {l3 : Nat} {u : CSt} (h_ro : ∀ q z a b u, KB S (ro q z a b u) u) : KB S (B_X3_counted_41 N ro l1 l2 l3 u) u := by
  unfold B_X3_counted_41
  refine KB_bc (kb_F_X4_hasNumbers.tr kb_rf) (fun _ _ => ?_)
  refine KB_if ?_ ?_
  · skip
    exact (kb_B_X3_counted_62 h_ro).tr kb_rf
  · skip
    refine KB_if ?_ ?_
    · skip
      refine KB_bc (kb_F_X4_isInput.tr kb_rf) (fun _ _ => ?_)
      refine KB_if ?_ ?_
      · skip
        exact (kb_B_X3_counted_71 h_ro).tr kb_rf
      · skip
        exact (kb_B_X3_counted_62 h_ro).tr kb_rf
    · skip
      exact (kb_B_X3_counted_62 h_ro).tr kb_rf
theorem kb_B_X3_counted_0 {S : Nat → Nat → Prop} {N : Nat} {ro : Nat → Nat → Int32 → Int32 → CSt → Option (Sum Nat Int32 × CSt)} {l1 : Int32} {u : CSt} (h_ro : ∀ q z a b u, KB S (ro q z a b u) u) : KB S (B_X3_counted_0 N ro l1 u) u := by
  unfold B_X3_counted_0
  refine KB_bc (kb_F_X9_next.tr kb_rf) (fun _ _ => ?_)
  refine KB_bc (kb_F_X9_here.tr kb_rf) (fun _ _ => ?_)
  refine KB_bc (kb_F_X8_known.tr kb_rf) (fun _ _ => ?_)
  refine KB_ok ?_
  refine KB_if ?_ ?_
  · skip
    refine KB_bt (kb_F_X9_refuse.tr kb_rf) (fun _ _ => ?_)
    exact (kb_B_X3_counted_41 h_ro).tr kb_rf
  · skip
    exact (kb_B_X3_counted_41 h_ro).tr kb_rf
theorem kb_F_X3_counted {S : Nat → Nat → Prop} {N : Nat} {ro : Nat → Nat → Int32 → Int32 → CSt → Option (Sum Nat Int32 × CSt)} {l1 : Int32} {u : CSt} (h_ro : ∀ q z a b u, KB S (ro q z a b u) u) : KB S (F_X3_counted N ro l1 u) u := by
  unfold F_X3_counted
  exact (kb_B_X3_counted_0 h_ro).tr kb_rf
theorem kb_B_X3_cases_176 {S : Nat → Nat → Prop} {N : Nat} {ro : Nat → Nat → Int32 → Int32 → CSt → Option (Sum Nat Int32 × CSt)} {l2 : Int32} {u : CSt} (h_ro : ∀ q z a b u, KB S (ro q z a b u) u) : KB S (B_X3_cases_176 N ro l2 u) u := by
  unfold B_X3_cases_176
  refine KB_bc (kb_F_X9_next.tr kb_rf) (fun _ _ => ?_)
  refine KB_ok ?_
  refine KB_bc (kb_F_X6_land.tr kb_rf) (fun _ _ => ?_)
  exact KB_some kb_rf
theorem kb_B_X3_cases_140 {S : Nat → Nat → Prop} {N : Nat} {ro : Nat → Nat → Int32 → Int32 → CSt → Option (Sum Nat Int32 × CSt)} {l1 : Int32} {l2 : Int32} {u : CSt} (h_ro : ∀ q z a b u, KB S (ro q z a b u) u) : KB S (B_X3_cases_140 N ro l1 l2 u) u := by
  unfold B_X3_cases_140
  refine KB_ok ?_
  refine KB_bc (kb_F_X6_step.tr kb_rf) (fun _ _ => ?_)
  refine KB_bc (kb_F_X9_is.tr kb_rf) (fun _ _ => ?_)
  refine KB_if ?_ ?_
  · skip
    exact (kb_B_X3_cases_176 h_ro).tr kb_rf
  · skip
    refine KB_bc (kb_F_X9_next.tr kb_rf) (fun _ _ => ?_)
    refine KB_bt ((h_ro _ _ _ _ _).tr kb_rf) (fun _ _ => ?_)
    exact (kb_B_X3_cases_176 h_ro).tr kb_rf
theorem kb_B_X3_cases_26 {S : Nat → Nat → Prop} {N : Nat} {ro : Nat → Nat → Int32 → Int32 → CSt → Option (Sum Nat Int32 × CSt)} {R_26 : Int32 × Int32 × Int32 × CSt → Option ((Sum Nat Int32) × CSt)} {l1 : Int32} {l2 : Int32} {l3 : Int32} {u : CSt} (h_ro : ∀ q z a b u, KB S (ro q z a b u) u) (h_R_26 : ∀ a, KB S (R_26 a) a.2.2.2) : KB S (B_X3_cases_26 N ro R_26 l1 l2 l3 u) u := by
  unfold B_X3_cases_26
  refine KB_if ?_ ?_
  · skip
    exact (kb_B_X3_cases_140 h_ro).tr kb_rf
  · skip
    refine KB_bc (kb_F_X9_is.tr kb_rf) (fun _ _ => ?_)
    refine KB_if ?_ ?_
    · skip
      exact (kb_B_X3_cases_140 h_ro).tr kb_rf
    · skip
      refine KB_ok ?_
      refine KB_bt (kb_F_X3_labels.tr kb_rf) (fun _ _ => ?_)
      refine KB_ok ?_
      refine KB_bc (kb_F_X6_step.tr kb_rf) (fun _ _ => ?_)
      refine KB_ok ?_
      refine KB_bc (kb_F_X6_step.tr kb_rf) (fun _ _ => ?_)
      refine KB_ok ?_
      refine KB_bc (kb_F_X6_step.tr kb_rf) (fun _ _ => ?_)
      refine KB_bt ((h_ro _ _ _ _ _).tr kb_rf) (fun _ _ => ?_)
      refine KB_ok ?_
      refine KB_bc (kb_F_X6_step.tr kb_rf) (fun _ _ => ?_)
      refine KB_ok ?_
      refine KB_bc (kb_F_X6_land.tr kb_rf) (fun _ _ => ?_)
      exact (h_R_26 _).tr kb_rf
theorem kb_LP_X3_cases_26 {S : Nat → Nat → Prop} {N : Nat} {ro : Nat → Nat → Int32 → Int32 → CSt → Option (Sum Nat Int32 × CSt)} (h_ro : ∀ q z a b u, KB S (ro q z a b u) u) (n : Nat) : ∀ a : Int32 × Int32 × Int32 × CSt, KB S (LP_X3_cases_26 N ro n a) a.2.2.2 := by
  induction n with
  | zero => exact fun a r z e => by have e : (none : Option _) = some (r, z) := e; cases e
  | succ n ih =>
    intro a
    show KB S (B_X3_cases_26 N ro (LP_X3_cases_26 N ro n) a.1 a.2.1 a.2.2.1 a.2.2.2) a.2.2.2
    exact kb_B_X3_cases_26 h_ro ih
theorem kb_B_X3_cases_0 {S : Nat → Nat → Prop} {N : Nat} {ro : Nat → Nat → Int32 → Int32 → CSt → Option (Sum Nat Int32 × CSt)} {l1 : Int32} {u : CSt} (h_ro : ∀ q z a b u, KB S (ro q z a b u) u) : KB S (B_X3_cases_0 N ro l1 u) u := by
  unfold B_X3_cases_0
  refine KB_bc (kb_F_X9_next.tr kb_rf) (fun _ _ => ?_)
  refine KB_bt (kb_G_X8_expression.tr kb_rf) (fun _ _ => ?_)
  refine KB_bc (kb_F_X9_next.tr kb_rf) (fun _ _ => ?_)
  exact (kb_LP_X3_cases_26 h_ro _ _).tr kb_rf
theorem kb_F_X3_cases {S : Nat → Nat → Prop} {N : Nat} {ro : Nat → Nat → Int32 → Int32 → CSt → Option (Sum Nat Int32 × CSt)} {l1 : Int32} {u : CSt} (h_ro : ∀ q z a b u, KB S (ro q z a b u) u) : KB S (F_X3_cases N ro l1 u) u := by
  unfold F_X3_cases
  exact (kb_B_X3_cases_0 h_ro).tr kb_rf
theorem kb_FMS_ {S : Nat → Nat → Prop} {N : Nat} : ∀ (d q z : Nat) (a b : Int32) (u : CSt), KB S (FMS_ N d q z a b u) u := by
  intro d
  induction d with
  | zero => exact fun q z a b u => KB_none
  | succ d ih =>
    intro q z a b u
    show KB S (if q = 0 then F_X3_body N (FMS_ N d) u else if q = 1 then F_X3_statements N (FMS_ N d) u else if q = 2 then F_X3_statement N (FMS_ N d) u else if q = 3 then F_X3_choice N (FMS_ N d) a u else if q = 4 then F_X3_loop N (FMS_ N d) a u else if q = 5 then F_X3_round N (FMS_ N d) a u else if q = 6 then F_X3_counted N (FMS_ N d) a u else if q = 7 then F_X3_cases N (FMS_ N d) a u else none) u
    refine KB_if (kb_F_X3_body ih) ?_
    refine KB_if (kb_F_X3_statements ih) ?_
    refine KB_if (kb_F_X3_statement ih) ?_
    refine KB_if (kb_F_X3_choice ih) ?_
    refine KB_if (kb_F_X3_loop ih) ?_
    refine KB_if (kb_F_X3_round ih) ?_
    refine KB_if (kb_F_X3_counted ih) ?_
    refine KB_if (kb_F_X3_cases ih) ?_
    exact KB_none
theorem kb_G_X3_statements {S : Nat → Nat → Prop} {N : Nat} {u : CSt} : KB S (G_X3_statements N u) u := kb_FMS_ _ _ _ _ _ _
/-- S tells of no name that is told later -/
def NSq (S : Nat → Nat → Prop) (u : CSt) : Prop := ∀ t k : Nat, (pI u (cR u 2) 12).toInt ≤ (t : Int) → t < 160 → ¬ S (169 * cR u 2 + t) k
/-- a routine is open, and S tells of none of its cells that grow -/
def ow9 (S : Nat → Nat → Prop) (u : CSt) : Prop := 0 ≤ (pI u (cR u 2) 15).toInt ∧ (pI u (cR u 2) 15).toInt < (pI u (cR u 2) 12).toInt ∧ ∀ k, k ∈ [7, 11, 12] → ¬ S (169 * cR u 2 + (pI u (cR u 2) 15).toNatClampNeg) k
section KbH
variable {α β γ : Type} {u v w : CSt} {S : Nat → Nat → Prop} {N q m : Nat} {l1 l2 l3 l4 : Int32} {y2 : Int64}
theorem NSq.fr (h : NSq S u) (hk : kb S u w) : NSq S w := fun t k h1 h2 => by
  have := hk.2.2.2 (cR u 2)
  rw [hk.2.1] at h1 ⊢
  exact h t k (by omega) h2
theorem ow9.fr (h : ow9 S u) (hk : kb S u w) : ow9 S w := by
  unfold ow9 at h ⊢
  have := hk.2.2.2 (cR u 2)
  rw [hk.2.1, hk.2.2.1]
  exact ⟨h.1, by omega, h.2.2⟩
theorem b_bc {x : Option (α × CSt)} {k : α → CSt → Option (β × CSt)} {Q : β → CSt → Prop} (hx : KB S x w) (hw : kb S u w) (h : ∀ r z, kb S u z → pq (k r z) Q) : pq (bc x k) Q := pq_bc (pq_m hx.p (fun r z hz => h r z (kb_tr hw hz)))
theorem b_bt {x : Option (Sum Nat α × CSt)} {k : α → CSt → Option (Sum Nat β × CSt)} (hx : KB S x w) (hw : kb S u w) (h : ∀ r z, kb S u z → pq (k r z) (fun _ z' => kb S u z')) : pq (bt x k) (fun _ z' => kb S u z') := pq_bt (pq_m hx.p (fun y z hz => ⟨fun e _ => kb_tr hw hz, fun b _ => h b z (kb_tr hw hz)⟩))
theorem pz_here : pq (F_X9_here N u) (fun _ z => z = u) := by
  unfold F_X9_here B_X9_here_0
  exact pq_rd (pq_some rfl)
theorem pz_head : pq (F_X9_head N u) (fun _ z => z = u) := by
  unfold F_X9_head B_X9_head_0
  exact pq_rd (pq_some rfl)
theorem pz_tail : pq (F_X9_tail N u) (fun _ z => z = u) := by
  unfold F_X9_tail B_X9_tail_0
  exact pq_rd (pq_some rfl)
theorem pz_no {β : Type} {Q : β → CSt → Prop} : pq (none : Option (β × CSt)) Q := fun _ _ e => nomatch e
theorem pz_called1 : ∀ (M : Nat) (a : Nat × Nat × Int64 × Int32 × Int32 × Int32 × CSt), pq (LP_X6_localCalled_12 N M a) (fun _ z => z = a.2.2.2.2.2.2) := by
  intro M
  induction M with
  | zero => intro a r z e; cases e
  | succ M ih =>
    rintro ⟨a1, a2, a3, a4, a5, a6, w⟩
    show pq (B_X6_localCalled_12 N (LP_X6_localCalled_12 N M) a1 a2 a3 a4 a5 a6 w) (fun _ z => z = w)
    unfold B_X6_localCalled_12 B_X6_localCalled_71
    repeat' (first | exact pq_some rfl | exact ih _ | exact pz_no | refine pq_if (fun _ => ?_) (fun _ => ?_) | refine pq_ix (fun _ => ?_))
theorem pz_called {l1 : Nat} {l2 : Int64} : pq (F_X6_localCalled N q l1 l2 l4 u) (fun _ z => z = u) := by
  unfold F_X6_localCalled B_X6_localCalled_0
  exact pz_called1 _ _
theorem pz_ofText1 : ∀ (M : Nat) (a : Nat × Int64 × Int32 × Int32 × CSt), pq (LP_X6_ofText_61 N M a) (fun _ z => z = a.2.2.2.2) := by
  intro M
  induction M with
  | zero => intro a r z e; cases e
  | succ M ih =>
    rintro ⟨a1, a2, a3, a4, w⟩
    show pq (B_X6_ofText_61 N (LP_X6_ofText_61 N M) a1 a2 a3 a4 w) (fun _ z => z = w)
    unfold B_X6_ofText_61
    repeat' (first | exact pq_some rfl | exact ih _ | exact pz_no | refine pq_if (fun _ => ?_) (fun _ => ?_) | refine pq_ix (fun _ => ?_))
theorem pz_ofText2 : ∀ (M : Nat) (a : Nat × Int64 × Int32 × Int32 × CSt), pq (LP_X6_ofText_3 N M a) (fun _ z => z = a.2.2.2.2) := by
  intro M
  induction M with
  | zero => intro a r z e; cases e
  | succ M ih =>
    rintro ⟨a1, a2, a3, a4, w⟩
    show pq (B_X6_ofText_3 N (LP_X6_ofText_3 N M) a1 a2 a3 a4 w) (fun _ z => z = w)
    unfold B_X6_ofText_3 B_X6_ofText_52
    repeat' (first | exact pq_some rfl | exact ih _ | exact pz_ofText1 _ _ | exact pz_no | refine pq_if (fun _ => ?_) (fun _ => ?_) | refine pq_ix (fun _ => ?_))
theorem pz_ofText {l1 : Int64} : pq (F_X6_ofText N q l1 l4 u) (fun _ z => z = u) := by
  unfold F_X6_ofText B_X6_ofText_0
  exact pz_ofText2 _ _
theorem hb_become {l2 : Int64} (hm : ∀ k, ¬ S m k) (hw : kb S u w) : pq (F_X4_become N m l1 l2 l4 w) (fun _ z => kb S u z) := by
  unfold F_X4_become B_X4_become_0
  exact pq_some (fb_xmI (hm _) (fb_xmI (hm _) (fb_xmI (hm _) (fb_xmI (hm _) (fb_xmL (hm _) (fb_xmI (hm _) (fb_xmI (hm _) (fb_xmI (hm _) (fb_xmI (hm _) (fb_xmI (hm _) (fb_xmI (hm _) (fb_xmI (hm _) (fb_xmI (hm _) (fb_xmL (hm _) hw))))))))))))))
theorem hb_told {a : Int32} (hT : 0 ≤ a.toInt ∧ a.toInt < 160) (hw : kb S u w) (h12 : pI w q 12 = a) (h3 : mI w m 3 = a) : kb S u (xpI w q 12 (pI w q 12 + 1)) ∧ (mI (xpI w q 12 (pI w q 12 + 1)) m 3).toInt = a.toInt ∧ (pI (xpI w q 12 (pI w q 12 + 1)) q 12).toInt = a.toInt + 1 := by
  have e1 : (1 : Int32).toInt = 1 := by decide
  have ea : (pI w q 12 + 1).toInt = a.toInt + 1 := by rw [h12, tI_add (by omega) (by omega), e1]
  have e12 : pI (xpI w q 12 (pI w q 12 + 1)) q 12 = pI w q 12 + 1 := by
    show (if q = q then (if 12 = 12 then _ else _) else _) = _
    rw [if_pos rfl, if_pos rfl]
  refine ⟨kb_tr hw ⟨fun _ _ _ => ⟨rfl, rfl⟩, rfl, fun p => ?_, fun p => ?_⟩, ?_, by rw [e12, ea]⟩
  · show (if p = q then (if 15 = 12 then _ else pI w p 15) else pI w p 15) = _
    by_cases z : p = q
    · rw [if_pos z, if_neg (by decide)]
    · rw [if_neg z]
  · show _ ≤ (if p = q then (if 12 = 12 then pI w q 12 + 1 else pI w p 12) else pI w p 12).toInt
    by_cases z : p = q
    · rw [if_pos z, if_pos rfl, ea, z, h12]
      omega
    · rw [if_neg z]
      exact Int.le_refl _
  · show (mI w m 3).toInt = _
    rw [h3]
/-- adding a name -/
theorem hb_add {l2 : Int64} (hw : kb S u w) (hT : pI w q 12 < 160) (hS : ∀ t k : Nat, (pI w q 12).toInt = (t : Int) → t < 160 → ¬ S (169 * q + t) k) : pq (F_X6_add N q l1 l2 l4 w) (fun r z => kb S u z ∧ (∀ k, ¬ S r k) ∧ (mI z r 3).toInt = (pI w q 12).toInt ∧ 0 ≤ (pI w q 12).toInt ∧ (pI w q 12).toInt < 160 ∧ (pI z q 12).toInt = (pI w q 12).toInt + 1 ∧ r = 169 * q + (pI w q 12).toInt.toNat ∧ mI z r 2 = l1) := by
  have e160 : (160 : Int32).toInt = 160 := by decide
  have hlt := Int32.lt_iff_toInt_lt.mp hT
  rw [e160] at hlt
  unfold F_X6_add B_X6_add_0
  rw [if_pos hT]
  refine pq_ix (fun hv => ?_)
  have h0 := (vin_iff.mp hv).1
  have hn : (pI w q 12).toNatClampNeg = (pI w q 12).toInt.toNat := rfl
  have hm : ∀ k, ¬ S (169 * q + (pI w q 12).toNatClampNeg) k := fun k => hS _ k (by rw [hn]; omega) (by rw [hn]; omega)
  have he0 : 169 * q + (pI w q 12).toNatClampNeg = 169 * q + (pI w q 12).toInt.toNat := by rw [hn]
  refine pq_bc (pq_m (pq_and (pq_and (hb_become hm hw) (h_become12 (u := w))) k2_become) (fun _ z hz => ?_))
  obtain ⟨⟨g1, g2⟩, -, g3⟩ := hz
  generalize he : 169 * q + (pI w q 12).toNatClampNeg = m at hm he0 g3 ⊢
  have s2 : mI z m 2 = l1 := g3.2.2.2.1
  refine pq_pc (pq_if (fun c => ?_) (fun c => ?_))
  · unfold B_X6_add_86
    obtain ⟨k1, k2, k3⟩ := hb_told (q := q) (m := m) (a := pI w q 12) (u := u) (w := xmI z m 3 (pI z q 12)) ⟨h0, hlt⟩ (fb_xmI (hm _) g1) (g2 q) (by rw [h_mI]; exact g2 q)
    exact pq_some ⟨k1, hm, k2, h0, hlt, k3, he0, by show mI (xmI z m 3 (pI z q 12)) m 2 = l1; rw [h_mI2 (by decide)]; exact s2⟩
  · refine pq_rd (pq_pc (pq_ix (fun _ => pq_wc (pq_rd (pq_wc ?_)))))
    unfold B_X6_add_86
    refine pq_pc ?_
    obtain ⟨k1, k2, k3⟩ := hb_told (q := q) (m := m) (a := pI w q 12) (u := u) (w := xpA (xpA (xmI (xmI z m 3 (pI z q 12)) m 4 (pA (xmI z m 3 (pI z q 12)) q 9 l1.toNatClampNeg)) q (4 + l1.toNatClampNeg) (mI (xmI (xmI z m 3 (pI z q 12)) m 4 (pA (xmI z m 3 (pI z q 12)) q 9 l1.toNatClampNeg)) m 4).toNatClampNeg (pI (xmI (xmI z m 3 (pI z q 12)) m 4 (pA (xmI z m 3 (pI z q 12)) q 9 l1.toNatClampNeg)) q 12)) q 9 l1.toNatClampNeg (pA (xpA (xmI (xmI z m 3 (pI z q 12)) m 4 (pA (xmI z m 3 (pI z q 12)) q 9 l1.toNatClampNeg)) q (4 + l1.toNatClampNeg) (mI (xmI (xmI z m 3 (pI z q 12)) m 4 (pA (xmI z m 3 (pI z q 12)) q 9 l1.toNatClampNeg)) m 4).toNatClampNeg (pI (xmI (xmI z m 3 (pI z q 12)) m 4 (pA (xmI z m 3 (pI z q 12)) q 9 l1.toNatClampNeg)) q 12)) q 9 l1.toNatClampNeg + 1)) ⟨h0, hlt⟩ (fb_xpA (fb_xpA (fb_xmI (hm _) (fb_xmI (hm _) g1)))) (g2 q) (by
      show mI (xmI (xmI z m 3 (pI z q 12)) m 4 _) m 3 = _
      rw [h_mI2 (by decide), h_mI]
      exact g2 q)
    exact pq_some ⟨k1, hm, k2, h0, hlt, k3, he0, by show mI (xmI (xmI z m 3 (pI z q 12)) m 4 _) m 2 = l1; rw [h_mI2 (by decide), h_mI2 (by decide)]; exact s2⟩
/-- what is known of a new name r -/
def NWq (S : Nat → Nat → Prop) (z : CSt) (r : Nat) : Prop := (∀ k, ¬ S r k) ∧ 0 ≤ (mI z r 3).toInt ∧ (mI z r 3).toInt < (pI z (cR z 2) 12).toInt ∧ (mI z r 3).toInt < 160 ∧ r = 169 * cR z 2 + (mI z r 3).toInt.toNat ∧ (pI z (cR z 2) 12).toInt = (mI z r 3).toInt + 1
theorem hb_new (hw : kb S u w) (hS : ∀ t k : Nat, (pI w (cR w 2) 12).toInt = (t : Int) → t < 160 → ¬ S (169 * cR w 2 + t) k) : pq (F_X3_newName N l1 w) (fun y z => kb S u z ∧ ∀ r, y = .inr r → NWq S z r ∧ (mI z r 3).toInt = (pI w (cR w 2) 12).toInt ∧ mI z r 2 = l1) := by
  have ref : ∀ (a p : Int32) (z : CSt) (k : Int32 → CSt → Option (Sum Nat Nat × CSt)), kb S u z → pq (bt (F_X9_refuse N a p z) k) (fun y z => kb S u z ∧ ∀ r, y = .inr r → NWq S z r ∧ (mI z r 3).toInt = (pI w (cR w 2) 12).toInt ∧ mI z r 2 = l1) := fun a p z k hz => pq_refuse ⟨fb_xI (fb_xI hz), fun r e => nomatch e⟩
  have b108 : ∀ (a b : Int64) (c : Int32) (z : CSt), kb S u z → cR z 2 = cR w 2 → pI z (cR w 2) 12 = pI w (cR w 2) 12 → pI z (cR z 2) 12 < 160 → pq (B_X3_newName_108 N l1 a c z) (fun y z => kb S u z ∧ ∀ r, y = .inr r → NWq S z r ∧ (mI z r 3).toInt = (pI w (cR w 2) 12).toInt ∧ mI z r 2 = l1) := by
    intro a b c z hz hc hp h12
    unfold B_X3_newName_108
    refine pq_bc (pq_m h_next (fun _ z1 hz1 => ?_))
    have k1 : kb S u z1 ∧ cR z1 2 = cR w 2 ∧ pI z1 (cR w 2) 12 = pI w (cR w 2) 12 := by
      rcases hz1 with e | ⟨t, e⟩
      · rw [e]; exact ⟨hz, hc, hp⟩
      · rw [e]; exact ⟨hz, hc, hp⟩
    obtain ⟨k1, kc, kp⟩ := k1
    have p1 : pI z1 (cR z1 2) 12 < 160 := by
      rcases hz1 with e | ⟨t, e⟩
      · rw [e]; exact h12
      · rw [e]; exact h12
    refine pq_ok (fun _ => pq_bc (pq_m (hb_add k1 p1 (fun t k h1 h2 => ?_)) (fun r z2 hz2 => pq_ok (fun _ => pq_some ⟨hz2.1, fun r' e => ?_⟩))))
    · rw [kc, kp] at h1
      rw [kc]
      exact hS t k h1 h2
    · cases e
      obtain ⟨g1, g2, g3, g4, g5, g6, g7, g8⟩ := hz2
      have ec : cR z2 2 = cR z1 2 := by rw [g1.2.1, k1.2.1]
      unfold NWq
      rw [ec, g6, g3]
      refine ⟨⟨g2, g4, by omega, g5, ?_, rfl⟩, by rw [kc, kp], g8⟩
      exact g7
  have b88 : ∀ (a : Int32) (b : Int64) (c : Int32) (z : CSt), kb S u z → cR z 2 = cR w 2 → pI z (cR w 2) 12 = pI w (cR w 2) 12 → pq (B_X3_newName_88 N l1 a b c z) (fun y z => kb S u z ∧ ∀ r, y = .inr r → NWq S z r ∧ (mI z r 3).toInt = (pI w (cR w 2) 12).toInt ∧ mI z r 2 = l1) := by
    intro a b c z hz hc hp
    unfold B_X3_newName_88
    refine pq_ok (fun _ => pq_bc (pq_m h_room (fun r z1 hz1 => ?_)))
    rw [hz1.1]
    exact pq_if (fun _ => ref _ _ _ _ hz) (fun c => b108 _ b _ _ hz hc hp (hz1.2 c))
  have b67 : ∀ (a : Int32) (b : Int64) (c : Int32) (s0 : Nat) (z : CSt), kb S u z → cR z 2 = cR w 2 → pI z (cR w 2) 12 = pI w (cR w 2) 12 → pq (B_X3_newName_67 N l1 a b c s0 z) (fun y z => kb S u z ∧ ∀ r, y = .inr r → NWq S z r ∧ (mI z r 3).toInt = (pI w (cR w 2) 12).toInt ∧ mI z r 2 = l1) := by
    intro a b c s0 z hz hc hp
    unfold B_X3_newName_67
    exact pq_if (fun _ => b88 _ _ _ _ hz hc hp) (fun _ => ref _ _ _ _ hz)
  have lk : ∀ {α : Type} {x : Option (α × CSt)} {k : α → CSt → Option (Sum Nat Nat × CSt)} {z : CSt} {Q : Sum Nat Nat → CSt → Prop}, pq x (fun _ z' => z' = z) → (∀ r, pq (k r z) Q) → pq (bc x k) Q := fun hx h => pq_bc (pq_m hx (fun r z' e => by rw [e]; exact h r))
  unfold F_X3_newName B_X3_newName_0
  refine lk pz_here (fun _ => lk pz_head (fun _ => lk pz_tail (fun _ => ?_)))
  refine pq_if (fun _ => pq_ok (fun _ => ?_)) (fun _ => pq_ok (fun _ => ?_))
  · exact lk (pq_m h_name (fun r z hz => hz.1)) (fun _ => pq_ok (fun _ => lk pz_called (fun _ => pq_ok (fun _ => b67 _ _ _ _ _ hw rfl rfl))))
  · exact lk pz_ofText (fun _ => pq_ok (fun _ => b67 _ _ _ _ _ hw rfl rfl))
theorem b_new {k : Nat → CSt → Option (Sum Nat Int32 × CSt)} (hw : kb S u w) (hS : NSq S w) (h : ∀ r z, kb S u z → NWq S z r → pq (k r z) (fun _ z' => kb S u z')) : pq (bt (F_X3_newName N l1 w) k) (fun _ z' => kb S u z') := pq_bt (pq_m (hb_new hw (fun t k h1 h2 => hS t k (by omega) h2)) (fun y z hz => ⟨fun _ _ => hz.1, fun b e => h b z hz.1 (hz.2 b e).1⟩))
theorem hb_join {l1 : Nat} (ho : ow9 S w) (h1 : ∀ k, ¬ S l1 k) (hw : kb S u w) : pq (F_X3_join N l1 l2 w) (fun _ z => kb S u z) := by
  unfold F_X3_join B_X3_join_0
  refine pq_ok (fun hq => pq_bc (pq_m h_name (fun r z hz => ?_)))
  obtain ⟨e, hr⟩ := hz
  rw [e]
  have hr := hr ho.1 ho.2.1
  have hm : ∀ k, k ∈ [7, 11, 12] → ¬ S r k := by rw [hr]; exact ho.2.2
  have k1 : kb S u (xmI (xmI (xmI w l1 9 (mI w r 7)) r 7 ((mI (xmI w l1 9 (mI w r 7)) r 7) + (mI (xmI w l1 9 (mI w r 7)) l1 7))) r 12 ((mI (xmI (xmI w l1 9 (mI w r 7)) r 7 ((mI (xmI w l1 9 (mI w r 7)) r 7) + (mI (xmI w l1 9 (mI w r 7)) l1 7))) r 12) + 1)) := fb_xmI (hm 12 (by decide)) (fb_xmI (hm 7 (by decide)) (fb_xmI (h1 _) hw))
  have b64 : ∀ (s1 s2 : Int32) (z : CSt), kb S u z → pq (B_X3_join_64 N l2 r r s1 s2 z) (fun _ z => kb S u z) := by
    intro s1 s2 z hz
    unfold B_X3_join_64
    exact pq_pc (pq_if (fun _ => pq_some (fb_xmI (hm 11 (by decide)) hz)) (fun _ => pq_refuse (fb_xI (fb_xI (fb_xmI (hm 11 (by decide)) hz)))))
  refine pq_ok (fun _ => pq_pc (pq_pc (pq_pc (pq_if (fun _ => b64 _ _ _ k1) (fun _ => b64 _ _ _ k1)))))
theorem hb_one (ho : l1 = 0 ∨ ow9 S w) (hS : NSq S w) : KB S (F_X3_oneVariable N l1 l2 l3 w) w := by
  have ow : ∀ z, kb S w z → l1 = 0 ∨ ow9 S z := fun z hz => ho.imp id (fun o => o.fr hz)
  have b112 : ∀ (a : Int32) (m : Nat) (z : CSt), (∀ k, ¬ S m k) → kb S w z → pq (B_X3_oneVariable_112 N l1 l3 a m z) (fun _ z => kb S w z) := by
    intro a m z hm hz
    unfold B_X3_oneVariable_112
    refine pq_if (fun _ => pq_pc ?_) (fun c => ?_)
    · exact b_bt kb_F_X3_allot (fb_xmI (hm _) hz) (fun _ z2 h2 => pq_some h2)
    · refine pq_bt (pq_m (hb_join ((ow z hz).resolve_left c) hm hz) (fun y z2 h2 => ⟨fun _ _ => h2, fun _ _ => pq_some h2⟩))
  have b83 : ∀ (a : Int32) (m : Nat) (z : CSt), (∀ k, ¬ S m k) → kb S w z → pq (B_X3_oneVariable_83 N l1 l3 a m z) (fun _ z => kb S w z) := by
    intro a m z hm hz
    unfold B_X3_oneVariable_83
    refine b_bc kb_F_X9_is hz (fun _ z1 h1 => pq_if (fun _ => b112 _ _ _ hm h1) (fun _ => b_bc kb_F_X9_next h1 (fun _ z2 h2 => ?_)))
    exact b_bt kb_F_X3_constant h2 (fun _ z3 h3 => pq_pc (b112 _ _ _ hm (fb_xmL (hm _) h3)))
  have : pq (F_X3_oneVariable N l1 l2 l3 w) (fun _ z' => kb S w z') := by
    unfold F_X3_oneVariable B_X3_oneVariable_0
    refine b_bc kb_F_X9_here kb_rf (fun _ z1 h1 => b_new h1 (hS.fr h1) (fun r z2 h2 hr => pq_ok (fun _ => pq_pc (pq_pc (pq_pc ?_)))))
    have hr := hr.1
    refine b_bc kb_F_X9_is (fb_xmI (hr _) (fb_xmI (hr _) (fb_xmI (hr _) h2))) (fun _ z3 h3 => pq_if (fun _ => b83 _ _ _ hr h3) (fun _ => b_bc kb_F_X9_next h3 (fun _ z4 h4 => pq_pc ?_)))
    exact b_bt kb_F_X9_takeBounded (fb_xmI (hr _) h4) (fun _ z5 h5 => pq_pc (b_bc kb_F_X9_next (fb_xmI (hr _) h5) (fun _ z6 h6 => b83 _ _ _ hr h6)))
  exact this
theorem hb_varL : ∀ (M : Nat) (l1 l2 l3 l4 : Int32) (w : CSt), (l1 = 0 ∨ ow9 S w) → NSq S w → KB S (LP_X3_variables_18 N M (l1, l2, l3, l4, w)) w := by
  intro M
  induction M with
  | zero => intro l1 l2 l3 l4 w _ _ r z e; cases e
  | succ M ih =>
    intro l1 l2 l3 l4 w ho hS
    have b58 : ∀ z, kb S w z → pq (B_X3_variables_58 N z) (fun _ z' => kb S w z') := by
      intro z hz
      unfold B_X3_variables_58
      exact b_bc kb_F_X9_next hz (fun _ z2 h2 => pq_some h2)
    show pq (B_X3_variables_18 N (LP_X3_variables_18 N M) l1 l2 l3 l4 w) (fun _ z' => kb S w z')
    unfold B_X3_variables_18
    refine pq_if (fun _ => b58 _ kb_rf) (fun _ => b_bc kb_F_X9_is kb_rf (fun _ z1 h1 => pq_if (fun _ => b58 _ h1) (fun _ => b_bc kb_F_X9_next h1 (fun _ z2 h2 => ?_))))
    refine b_bt (hb_one (ho.imp id (fun o => o.fr h2)) (hS.fr h2)) h2 (fun _ z3 h3 => ?_)
    exact ((ih l1 l2 l3 (l4 + 1) z3 (ho.imp id (fun o => o.fr h3)) (hS.fr h3)).tr h3).p
theorem hb_vars (ho : l1 = 0 ∨ ow9 S w) (hS : NSq S w) : KB S (F_X3_variables N l1 l2 w) w := by
  have : pq (F_X3_variables N l1 l2 w) (fun _ z' => kb S w z') := by
    unfold F_X3_variables B_X3_variables_0
    refine b_bc kb_F_X9_takeKind kb_rf (fun r z1 h1 => b_bt (hb_one (ho.imp id (fun o => o.fr h1)) (hS.fr h1)) h1 (fun _ z2 h2 => ?_))
    exact ((hb_varL N l1 l2 r 0 z2 (ho.imp id (fun o => o.fr h2)) (hS.fr h2)).tr h2).p
  exact this
theorem hb_placed (hS : NSq S w) : KB S (F_X3_placed N l1 w) w := by
  have : pq (F_X3_placed N l1 w) (fun _ z' => kb S w z') := by
    unfold F_X3_placed B_X3_placed_0
    refine b_bc kb_F_X9_takeKind kb_rf (fun _ z1 h1 => b_new h1 (hS.fr h1) (fun r z2 h2 hr => pq_ok (fun _ => pq_pc (pq_pc (pq_pc ?_)))))
    have hr := hr.1
    refine b_bc kb_F_X9_next (fb_xmI (hr _) (fb_xmI (hr _) (fb_xmI (hr _) h2))) (fun _ z3 h3 => pq_rd (b_bt kb_F_X9_takeBounded h3 (fun _ z4 h4 => pq_pc ?_)))
    exact b_bc kb_F_X9_next (fb_xmI (hr _) h4) (fun _ z5 h5 => pq_some h5)
  exact this
theorem hb_useL : ∀ (M : Nat) (l1 : Nat) (l2 l4 : Int32) (w : CSt), KB S (LP_X3_oneUse_33 N M (l1, l2, l4, w)) w := by
  intro M
  induction M with
  | zero => intro l1 l2 l4 w r z e; cases e
  | succ M ih =>
    intro l1 l2 l4 w
    show pq (B_X3_oneUse_33 N (LP_X3_oneUse_33 N M) l1 l2 l4 w) (fun _ z' => kb S w z')
    unfold B_X3_oneUse_33
    refine pq_if (fun _ => pq_some kb_rf) (fun _ => pq_ok (fun _ => b_bc kb_F_X6_local kb_rf (fun _ z1 h1 => pq_ok (fun _ => b_bt kb_F_X3_allot h1 (fun _ z2 h2 => ?_)))))
    exact ((ih l1 l2 (l4 + 1) z2).tr h2).p
theorem hb_use1 {l1 : Nat} (hS : NSq S w) : KB S (F_X3_oneUse N l1 w) w := by
  have : pq (F_X3_oneUse N l1 w) (fun _ z' => kb S w z') := by
    unfold F_X3_oneUse B_X3_oneUse_0
    refine b_bc kb_F_X9_here kb_rf (fun _ z1 h1 => b_new h1 (hS.fr h1) (fun r z2 h2 hr => pq_ok (fun _ => pq_pc (pq_pc ?_))))
    have hr := hr.1
    exact ((hb_useL N _ _ _ _).tr (fb_xmI (hr _) (fb_xmI (hr _) h2))).p
  exact this
theorem hb_usesL : ∀ (M : Nat) (l1 : Nat) (l2 : Int32) (w : CSt), NSq S w → KB S (LP_X3_uses_45 N M (l1, l2, w)) w := by
  intro M
  induction M with
  | zero => intro l1 l2 w _ r z e; cases e
  | succ M ih =>
    intro l1 l2 w hS
    have b82 : ∀ z, kb S w z → pq (B_X3_uses_82 N z) (fun _ z' => kb S w z') := by
      intro z hz
      unfold B_X3_uses_82
      exact b_bc kb_F_X9_next hz (fun _ z2 h2 => pq_some h2)
    show pq (B_X3_uses_45 N (LP_X3_uses_45 N M) l1 l2 w) (fun _ z' => kb S w z')
    unfold B_X3_uses_45
    refine pq_if (fun _ => b82 _ kb_rf) (fun _ => b_bc kb_F_X9_is kb_rf (fun _ z1 h1 => pq_if (fun _ => b82 _ h1) (fun _ => b_bc kb_F_X9_next h1 (fun _ z2 h2 => b_bt (hb_use1 (hS.fr h2)) h2 (fun _ z3 h3 => ?_)))))
    exact ((ih l1 (l2 + 1) z3 (hS.fr h3)).tr h3).p
theorem hb_uses (hS : NSq S w) : KB S (F_X3_uses N w) w := by
  have b31 : ∀ (m : Nat) z, kb S w z → pq (B_X3_uses_31 N m z) (fun _ z' => kb S w z') := by
    intro m z hz
    unfold B_X3_uses_31
    exact b_bc kb_F_X9_next hz (fun _ z2 h2 => b_bt (hb_use1 (hS.fr h2)) h2 (fun _ z3 h3 => ((hb_usesL N m 0 z3 (hS.fr h3)).tr h3).p))
  have : pq (F_X3_uses N w) (fun _ z' => kb S w z') := by
    unfold F_X3_uses B_X3_uses_0
    exact b_bc kb_F_X8_known kb_rf (fun _ z1 h1 => pq_ok (fun _ => pq_if (fun _ => b31 _ _ h1) (fun _ => b_bc kb_F_X9_here h1 (fun _ z2 h2 => b_bt kb_F_X9_refuse h2 (fun _ z3 h3 => b31 _ _ h3)))))
  exact this
theorem hb_par19 (ho : ow9 S w) (hS : NSq S w) : KB S (B_X3_parameter_19 N w) w := by
  have : pq (B_X3_parameter_19 N w) (fun _ z' => kb S w z') := by
    unfold B_X3_parameter_19
    refine b_bc kb_F_X9_takeKind kb_rf (fun _ z1 h1 => b_bc kb_F_X9_here h1 (fun _ z2 h2 => b_new h2 (hS.fr h2) (fun r z3 h3 hr => pq_ok (fun _ => pq_pc (pq_pc ?_)))))
    have hr := hr.1
    have h4 : ∀ a : Int32, kb S w (xmI (xmI z3 r 5 a) r 7 1) := fun a => fb_xmI (hr _) (fb_xmI (hr _) h3)
    exact pq_bt (pq_m (hb_join (ho.fr (h4 _)) hr (h4 _)) (fun y z2 h2 => ⟨fun _ _ => h2, fun _ _ => pq_some h2⟩))
  exact this
theorem hb_par (ho : ow9 S w) (hS : NSq S w) : KB S (F_X3_parameter N w) w := by
  have b19 : ∀ z, kb S w z → pq (B_X3_parameter_19 N z) (fun _ z' => kb S w z') := fun z hz => ((hb_par19 (ho.fr hz) (hS.fr hz)).tr hz).p
  have : pq (F_X3_parameter N w) (fun _ z' => kb S w z') := by
    unfold F_X3_parameter B_X3_parameter_0
    exact b_bc kb_F_X9_is kb_rf (fun _ z1 h1 => pq_if (fun _ => b19 _ h1) (fun _ => b_bc kb_F_X9_next h1 (fun _ z2 h2 => b19 _ h2)))
  exact this
theorem nb_bc {x : Option (α × CSt)} {k : α → CSt → Option (β × CSt)} {Q : β → CSt → Prop} (hx : KB S x w) (hw : nbs S u w) (h : ∀ r z, nbs S u z → pq (k r z) Q) : pq (bc x k) Q := pq_bc (pq_m hx.p (fun r z hz => h r z (nbs_tr hw hz.1)))
theorem nb_bt {x : Option (Sum Nat α × CSt)} {k : α → CSt → Option (Sum Nat β × CSt)} (hx : KB S x w) (hw : nbs S u w) (h : ∀ r z, nbs S u z → pq (k r z) (fun _ z' => nbs S u z')) : pq (bt x k) (fun _ z' => nbs S u z') := pq_bt (pq_m hx.p (fun y z hz => ⟨fun e _ => nbs_tr hw hz.1, fun b _ => h b z (nbs_tr hw hz.1)⟩))
theorem hb_118 (hm : ¬ S m 13) : pq (B_X3_routine_118 N l1 l2 m w) (fun _ z => nbs S w z) := by
  unfold B_X3_routine_118
  refine pq_ok (fun _ => pq_pc (nb_bt kb_G_X3_statements (fb_xmI hm kb_rf).1 (fun _ z1 h1 => pq_if (fun _ => pq_ok (fun _ => ?_)) (fun _ => pq_ok (fun _ => ?_)))))
  · exact nb_bc kb_F_X6_constant h1 (fun _ z2 h2 => pq_ok (fun _ => nb_bc kb_F_X6_step h2 (fun _ z3 h3 => pq_ok (fun _ => pq_pc (pq_some h3)))))
  · exact nb_bc kb_F_X6_step h1 (fun _ z3 h3 => pq_ok (fun _ => pq_pc (pq_some h3)))
theorem hb_79 (hm : ¬ S m 13) : ∀ (M : Nat) (l4 : Int32) (w : CSt), ow9 S w → NSq S w → pq (LP_X3_routine_79 N M (l1, l2, m, l4, w)) (fun _ z => nbs S w z) := by
  intro M
  induction M with
  | zero => intro l4 w _ _ r z e; cases e
  | succ M ih =>
    intro l4 w ho hS
    have b118 : ∀ z, nbs S w z → pq (B_X3_routine_118 N l1 l2 m z) (fun _ z' => nbs S w z') := fun z hz => pq_m (hb_118 hm) (fun _ z' hz' => nbs_tr hz hz')
    show pq (B_X3_routine_79 N (LP_X3_routine_79 N M) l1 l2 m l4 w) (fun _ z' => nbs S w z')
    unfold B_X3_routine_79
    refine pq_if (fun _ => b118 _ kb_rf.1) (fun _ => b_bc kb_F_X9_is kb_rf (fun _ z1 h1 => pq_if (fun _ => b118 _ h1.1) (fun _ => b_bc kb_F_X9_next h1 (fun _ z2 h2 => ?_))))
    refine pq_bt (pq_m (hb_vars (l2 := 0) (Or.inr (ho.fr h2)) (hS.fr h2)).p (fun y z3 h3 => ⟨fun _ _ => nbs_tr h2.1 h3.1, fun _ _ => ?_⟩))
    exact pq_m (ih (l4 + 1) z3 ((ho.fr h2).fr h3) ((hS.fr h2).fr h3)) (fun _ z' hz' => nbs_tr (nbs_tr h2.1 h3.1) hz')
theorem hb_62 (hm : ¬ S m 13) (ho : ow9 S w) (hS : NSq S w) : pq (B_X3_routine_62 N l1 l2 m w) (fun _ z => nbs S w z) := by
  unfold B_X3_routine_62
  exact b_bc kb_F_X9_next kb_rf (fun _ z1 h1 => b_bc kb_F_X9_next h1 (fun _ z2 h2 => pq_m (hb_79 hm N 0 z2 (ho.fr h2) (hS.fr h2)) (fun _ z' hz' => nbs_tr h2.1 hz')))
theorem hb_32 (hm : ¬ S m 13) : ∀ (M : Nat) (l4 : Int32) (w : CSt), ow9 S w → NSq S w → pq (LP_X3_routine_32 N M (l1, l2, m, l4, w)) (fun _ z => nbs S w z) := by
  intro M
  induction M with
  | zero => intro l4 w _ _ r z e; cases e
  | succ M ih =>
    intro l4 w ho hS
    show pq (B_X3_routine_32 N (LP_X3_routine_32 N M) l1 l2 m l4 w) (fun _ z' => nbs S w z')
    unfold B_X3_routine_32
    refine pq_if (fun _ => hb_62 hm ho hS) (fun _ => b_bc kb_F_X9_is kb_rf (fun _ z1 h1 => pq_if (fun _ => ?_) (fun _ => pq_m (hb_62 hm (ho.fr h1) (hS.fr h1)) (fun _ z' hz' => nbs_tr h1.1 hz'))))
    refine pq_bt (pq_m (hb_par (ho.fr h1) (hS.fr h1)).p (fun y z3 h3 => ⟨fun _ _ => nbs_tr h1.1 h3.1, fun _ _ => ?_⟩))
    exact pq_m (ih (l4 + 1) z3 ((ho.fr h1).fr h3) ((hS.fr h1).fr h3)) (fun _ z' hz' => nbs_tr (nbs_tr h1.1 h3.1) hz')
/-- a block, a function: the names told before it stay -/
theorem hb_routine (hS : NSq S w) : pq (F_X3_routine N l1 l2 w) (fun _ z => nbs S w z) := by
  unfold F_X3_routine B_X3_routine_0
  refine pq_bt (pq_m (hb_new kb_rf (fun t k h1 h2 => hS t k (by omega) h2)) (fun y z hz => ⟨fun _ _ => hz.1.1, fun r e => ?_⟩))
  obtain ⟨hz, hz2⟩ := hz
  obtain ⟨⟨hr, a2, a3, a4, a5, -⟩, -⟩ := hz2 r e
  refine pq_ok (fun _ => pq_pc (pq_ok (fun _ => pq_pc ?_)))
  have k1 : kb S w (xmI z r 5 l2) := fb_xmI (hr _) hz
  have e3 : mI (xmI z r 5 l2) r 3 = mI z r 3 := h_mI2 (by decide)
  rw [e3]
  have eR : cR (xmI z r 5 l2) 2 = cR z 2 := rfl
  rw [eR]
  have p15 : pI (xpI (xmI z r 5 l2) (cR z 2) 15 (mI z r 3)) (cR z 2) 15 = mI z r 3 := by
    show (if cR z 2 = cR z 2 then (if 15 = 15 then _ else _) else _) = _
    rw [if_pos rfl, if_pos rfl]
  have p12 : pI (xpI (xmI z r 5 l2) (cR z 2) 15 (mI z r 3)) (cR z 2) 12 = pI z (cR z 2) 12 := by
    show (if cR z 2 = cR z 2 then (if 12 = 15 then _ else pI z (cR z 2) 12) else _) = _
    rw [if_pos rfl, if_neg (by decide)]
  have ho : ow9 S (xpI (xmI z r 5 l2) (cR z 2) 15 (mI z r 3)) := by
    show 0 ≤ (pI (xpI (xmI z r 5 l2) (cR z 2) 15 (mI z r 3)) (cR z 2) 15).toInt ∧ (pI (xpI (xmI z r 5 l2) (cR z 2) 15 (mI z r 3)) (cR z 2) 15).toInt < (pI (xpI (xmI z r 5 l2) (cR z 2) 15 (mI z r 3)) (cR z 2) 12).toInt ∧ ∀ k, k ∈ [7, 11, 12] → ¬ S (169 * cR z 2 + (pI (xpI (xmI z r 5 l2) (cR z 2) 15 (mI z r 3)) (cR z 2) 15).toNatClampNeg) k
    rw [p15, p12]
    refine ⟨a2, a3, fun k _ => ?_⟩
    have er : 169 * cR z 2 + (mI z r 3).toNatClampNeg = r := a5.symm
    rw [er]
    exact hr k
  have hS4 : NSq S (xpI (xmI z r 5 l2) (cR z 2) 15 (mI z r 3)) := by
    have hz' := hS.fr hz
    intro t k h1 h2
    have h1 : (pI (xpI (xmI z r 5 l2) (cR z 2) 15 (mI z r 3)) (cR z 2) 12).toInt ≤ (t : Int) := h1
    rw [p12] at h1
    exact hz' t k h1 h2
  have n1 : nbs S w (xpI (xmI z r 5 l2) (cR z 2) 15 (mI z r 3)) := k1.1
  generalize xpI (xmI z r 5 l2) (cR z 2) 15 (mI z r 3) = z4 at ho hS4 n1 ⊢
  exact pq_bc (pq_m (kb_F_X9_next (S := S) (u := z4)).p (fun _ z5 h5 => pq_m (hb_32 (hr _) N 0 z5 (ho.fr h5) (hS4.fr h5)) (fun _ z' hz' => nbs_tr (nbs_tr n1 h5.1) hz')))
theorem hb_cyc (hS : NSq S w) : KB S (F_X3_cyclic N w) w := by
  have b94 : ∀ z, kb S w z → pq (B_X3_cyclic_94 N z) (fun _ z' => kb S w z') := by
    intro z hz
    unfold B_X3_cyclic_94
    exact b_bc kb_F_X9_next hz (fun _ z1 h1 => pq_ok (fun _ => b_bt kb_G_X3_statements h1 (fun _ z2 h2 => b_bc kb_F_X6_step h2 (fun _ z3 h3 => pq_some h3))))
  have b61 : ∀ (m : Nat) (a b : Int32) z, kb S w z → pq (B_X3_cyclic_61 N m a b z) (fun _ z' => kb S w z') := by
    intro m a b z hz
    unfold B_X3_cyclic_61
    exact pq_if (fun _ => b94 _ hz) (fun _ => pq_ok (fun _ => pq_ix (fun _ => b_bc kb_F_X7_become hz (fun _ z1 h1 => b94 _ h1))))
  have : pq (F_X3_cyclic N w) (fun _ z' => kb S w z') := by
    unfold F_X3_cyclic B_X3_cyclic_0
    refine b_new kb_rf hS (fun r z2 h2 hr => pq_ok (fun _ => b_bc kb_F_X9_next h2 (fun _ z3 h3 => b_bt kb_F_X9_takeBounded h3 (fun _ z4 h4 => ?_))))
    exact b_bc kb_F_X9_is h4 (fun _ z5 h5 => pq_if (fun _ => b61 _ _ _ _ h5) (fun _ => b_bc kb_F_X9_next h5 (fun _ z6 h6 => b_bt kb_F_X9_takeBounded h6 (fun _ z7 h7 => b61 _ _ _ _ h7))))
  exact this
end KbH
