/-! What going through the text leaves of the rows 52, 53: all outside the code that is put. -/
def kzq (u w : RSt) : Prop := w.1 56 = u.1 56 ∧ ∀ s : Nat, (u.1 56).toInt = (s : Int) → 0 ≤ (u.2.2.1 54 s).toInt → (u.2.2.1 54 s).toInt ≤ 100000 → (u.2.2.1 54 s).toInt ≤ (w.2.2.1 54 s).toInt ∧ (w.2.2.1 54 s).toInt ≤ 100000 ∧ ∀ p : Nat, (p < 8000 * s ∨ 8000 * (s : Int) + (w.2.2.1 54 s).toInt ≤ (p : Int)) → w.2.2.2 52 p = u.2.2.2 52 p ∧ w.2.2.2 53 p = u.2.2.2 53 p
def KZq {β : Type} (x : Option (β × RSt)) (u : RSt) : Prop := ∀ r w, x = some (r, w) → kzq u w
section KZqs
variable {α β γ : Type} {u v w : RSt}
theorem kzq_rf : kzq u u := ⟨rfl, fun s _ _ h => ⟨Int.le_refl _, h, fun _ _ => ⟨rfl, rfl⟩⟩⟩
theorem kzq_tr (h : kzq u v) (h2 : kzq v w) : kzq u w := by
  refine ⟨h2.1.trans h.1, fun s hs h0 h1 => ?_⟩
  obtain ⟨a1, a2, a3⟩ := h.2 s hs h0 h1
  obtain ⟨b1, b2, b3⟩ := h2.2 s (by rw [h.1]; exact hs) (by omega) a2
  refine ⟨by omega, b2, fun p hp => ?_⟩
  obtain ⟨c1, c2⟩ := a3 p (by omega)
  obtain ⟨d1, d2⟩ := b3 p hp
  exact ⟨d1.trans c1, d2.trans c2⟩
theorem KZq.tr {x : Option (β × RSt)} (hx : KZq x w) (h : kzq u w) : KZq x u := fun r z e => kzq_tr h (hx r z e)
theorem fz_sI {k : Nat} {a : Int32} (hk : k ≠ 56) (h : kzq u w) : kzq u (sI w k a) := by
  refine kzq_tr h ⟨?_, fun s _ _ h => ⟨Int.le_refl _, h, fun _ _ => ⟨rfl, rfl⟩⟩⟩
  show (if 56 = k then a else w.1 56) = _
  rw [if_neg (fun q => hk q.symm)]
theorem fz_sL {k : Nat} {a : Int64} (h : kzq u w) : kzq u (sL w k a) := h
theorem fz_sA {k i : Nat} {a : Int32} (hk : k ≠ 54) (h : kzq u w) : kzq u (sA w k i a) := by
  have e : (sA w k i a).2.2.1 54 = w.2.2.1 54 := by
    show (if 54 = k then upd (w.2.2.1 k) i a else w.2.2.1 54) = _
    rw [if_neg (fun q => hk q.symm)]
  refine kzq_tr h ⟨rfl, fun s _ _ h => ⟨by rw [e]; exact Int.le_refl _, by rw [e]; exact h, fun _ _ => ⟨rfl, rfl⟩⟩⟩
theorem fz_sB {k i : Nat} {a : Int64} (hk : k ≠ 52 ∧ k ≠ 53) (h : kzq u w) : kzq u (sB w k i a) := by
  refine kzq_tr h ⟨rfl, fun s _ _ h => ⟨Int.le_refl _, h, fun p _ => ⟨?_, ?_⟩⟩⟩
  · show (if 52 = k then vp_updL (w.2.2.2 k) i a else w.2.2.2 52) p = _
    rw [if_neg (fun q => hk.1 q.symm)]
  · show (if 53 = k then vp_updL (w.2.2.2 k) i a else w.2.2.2 53) p = _
    rw [if_neg (fun q => hk.2 q.symm)]
theorem KZq_some {r : β} (h : kzq u w) : KZq (some (r, w)) u := fun _ _ e => by cases e; exact h
theorem KZq_none : KZq (none : Option (β × RSt)) u := fun _ _ e => nomatch e
theorem KZq_pu {x : RSt} {k : RSt → Option (β × RSt)} (h : KZq (k x) u) : KZq (pu x k) u := h
theorem KZq_rd {f : Nat → α} {n : Nat} {i : Int32} {k : α → Option (β × RSt)} (h : ∀ a, KZq (k a) u) : KZq (rd f n i k) u := by
  intro r z e
  have q : wp (rd f n i k) (fun r' z' => r' = r ∧ z' = z) := ⟨r, z, e, rfl, rfl⟩
  obtain ⟨r1, z1, e1, rfl, rfl⟩ := (wp_rd.mp q).2
  exact h _ _ _ e1
theorem KZq_wr {n : Nat} {i : Int32} {x : RSt} {k : RSt → Option (β × RSt)} (h : KZq (k x) u) : KZq (wr n i x k) u := by
  intro r z e
  have q : wp (wr n i x k) (fun r' z' => r' = r ∧ z' = z) := ⟨r, z, e, rfl, rfl⟩
  obtain ⟨r1, z1, e1, rfl, rfl⟩ := (wp_wr.mp q).2
  exact h _ _ e1
theorem KZq_bn {x : Option (α × RSt)} {k : α → RSt → Option (β × RSt)} (hx : KZq x u) (h : ∀ r w, KZq (k r w) w) : KZq (bn x k) u := by
  intro r z e
  have q : wp (bn x k) (fun r' z' => r' = r ∧ z' = z) := ⟨r, z, e, rfl, rfl⟩
  obtain ⟨r1, z1, e1, r2, z2, e2, rfl, rfl⟩ := wp_bn.mp q
  exact kzq_tr (hx _ _ e1) (h _ _ _ _ e2)
theorem KZq_if {c : Prop} {d : Decidable c} {a b : Option (β × RSt)} (ha : KZq a u) (hb : KZq b u) : KZq (if c then a else b) u := by
  by_cases q : c
  · rw [if_pos q]; exact ha
  · rw [if_neg q]; exact hb
theorem KZq_zr {v : Int32} {x : Option (β × RSt)} (h : KZq x u) : KZq (zr v x) u := fun r z e => h r z (zr_of e).2
theorem KZq_nz {v : Int32} {x : Option (β × RSt)} (h : KZq x u) : KZq (nz v x) u := fun r z e => h r z (nz_of e).2
theorem KZq_ok {P : Prop} {d : Decidable P} {x : Option (β × RSt)} (h : KZq x u) : KZq (ok P d x) u := fun r z e => h r z (ok_of e).2
end KZqs
theorem kz_B_bad_0 {N : Nat} {l1 l2 : Int32} {u : RSt} : KZq (B_bad_0 N l1 l2 u) u := by
  unfold B_bad_0
  by_cases c : u.1 67 = 0
  · rw [if_pos c]
    exact KZq_some (fz_sI (by decide) (fz_sI (by decide) kzq_rf))
  · rw [if_neg c]
    exact KZq_some kzq_rf
theorem kz_F_bad {N : Nat} {l1 : Int32} {l2 : Int32} {u : RSt}  : KZq (F_bad N l1 l2 u) u := by
  unfold F_bad
  exact kz_B_bad_0.tr kzq_rf
theorem kz_B_wrong_0 {N : Nat} {l1 : Int32} {l2 : Int32} {l3 : Int32} {u : RSt}  : KZq (B_wrong_0 N l1 l2 l3 u) u := by
  unfold B_wrong_0
  refine KZq_if ?_ ?_
  · skip
    exact KZq_some kzq_rf
  · skip
    refine KZq_if ?_ ?_
    · skip
      exact KZq_some kzq_rf
    · skip
      refine KZq_bn (kz_F_bad.tr kzq_rf) (fun _ _ => ?_)
      exact KZq_some kzq_rf
theorem kz_F_wrong {N : Nat} {l1 : Int32} {l2 : Int32} {l3 : Int32} {u : RSt}  : KZq (F_wrong N l1 l2 l3 u) u := by
  unfold F_wrong
  exact kz_B_wrong_0.tr kzq_rf
theorem kz_B_is_0 {N : Nat} {l1 : Int32} {u : RSt}  : KZq (B_is_0 N l1 u) u := by
  unfold B_is_0
  refine KZq_if ?_ ?_
  · skip
    refine KZq_rd (fun _ => ?_)
    refine KZq_if ?_ ?_
    · skip
      exact KZq_some kzq_rf
    · skip
      exact KZq_some kzq_rf
  · skip
    exact KZq_some kzq_rf
theorem kz_F_is {N : Nat} {l1 : Int32} {u : RSt}  : KZq (F_is N l1 u) u := by
  unfold F_is
  exact kz_B_is_0.tr kzq_rf
theorem kz_B_isNext_0 {N : Nat} {l1 : Int32} {u : RSt}  : KZq (B_isNext_0 N l1 u) u := by
  unfold B_isNext_0
  refine KZq_if ?_ ?_
  · skip
    refine KZq_rd (fun _ => ?_)
    refine KZq_if ?_ ?_
    · skip
      exact KZq_some kzq_rf
    · skip
      refine KZq_rd (fun _ => ?_)
      refine KZq_if ?_ ?_
      · skip
        exact KZq_some kzq_rf
      · skip
        exact KZq_some kzq_rf
  · skip
    exact KZq_some kzq_rf
theorem kz_F_isNext {N : Nat} {l1 : Int32} {u : RSt}  : KZq (F_isNext N l1 u) u := by
  unfold F_isNext
  exact kz_B_isNext_0.tr kzq_rf
theorem kz_B_stuck_18 {N : Nat} {s1 : Int32} {u : RSt}  : KZq (B_stuck_18 N s1 u) u := by
  unfold B_stuck_18
  refine KZq_rd (fun _ => ?_)
  refine KZq_bn (kz_F_bad.tr kzq_rf) (fun _ _ => ?_)
  exact KZq_some kzq_rf
theorem kz_B_stuck_0 {N : Nat} {u : RSt}  : KZq (B_stuck_0 N u) u := by
  unfold B_stuck_0
  refine KZq_rd (fun _ => ?_)
  refine KZq_if ?_ ?_
  · skip
    exact kz_B_stuck_18.tr kzq_rf
  · skip
    exact kz_B_stuck_18.tr kzq_rf
theorem kz_F_stuck {N : Nat} {u : RSt}  : KZq (F_stuck N u) u := by
  unfold F_stuck
  exact kz_B_stuck_0.tr kzq_rf
theorem kz_B_take_0 {N : Nat} {l1 : Int32} {u : RSt}  : KZq (B_take_0 N l1 u) u := by
  unfold B_take_0
  refine KZq_bn (kz_F_is.tr kzq_rf) (fun _ _ => ?_)
  refine KZq_if ?_ ?_
  · skip
    refine KZq_bn (kz_F_stuck.tr kzq_rf) (fun _ _ => ?_)
    exact KZq_some kzq_rf
  · skip
    refine KZq_pu ?_
    exact KZq_some (fz_sI (by decide) kzq_rf)
theorem kz_F_take {N : Nat} {l1 : Int32} {u : RSt}  : KZq (F_take N l1 u) u := by
  unfold F_take
  exact kz_B_take_0.tr kzq_rf
theorem kz_B_has_0 {N : Nat} {l1 : Int32} {u : RSt}  : KZq (B_has_0 N l1 u) u := by
  unfold B_has_0
  refine KZq_bn (kz_F_is.tr kzq_rf) (fun _ _ => ?_)
  refine KZq_if ?_ ?_
  · skip
    refine KZq_zr ?_
    exact KZq_some kzq_rf
  · skip
    refine KZq_pu ?_
    refine KZq_zr ?_
    exact KZq_some (fz_sI (by decide) kzq_rf)
theorem kz_F_has {N : Nat} {l1 : Int32} {u : RSt}  : KZq (F_has N l1 u) u := by
  unfold F_has
  exact kz_B_has_0.tr kzq_rf
theorem kz_B_opens_0 {N : Nat} {u : RSt}  : KZq (B_opens_0 N u) u := by
  unfold B_opens_0
  refine KZq_pu ?_
  refine KZq_if ?_ ?_
  · skip
    exact KZq_some (fz_sI (by decide) kzq_rf)
  · skip
    refine KZq_rd (fun _ => ?_)
    refine KZq_bn (kz_F_bad.tr (fz_sI (by decide) kzq_rf)) (fun _ _ => ?_)
    exact KZq_some kzq_rf
theorem kz_F_opens {N : Nat} {u : RSt}  : KZq (F_opens N u) u := by
  unfold F_opens
  exact kz_B_opens_0.tr kzq_rf
theorem kz_B_begins_0 {N : Nat} {l1 : Int32} {u : RSt}  : KZq (B_begins_0 N l1 u) u := by
  unfold B_begins_0
  refine KZq_bn (kz_F_is.tr kzq_rf) (fun _ _ => ?_)
  refine KZq_if ?_ ?_
  · skip
    refine KZq_bn (kz_F_stuck.tr kzq_rf) (fun _ _ => ?_)
    exact KZq_some kzq_rf
  · skip
    refine KZq_bn (kz_F_opens.tr kzq_rf) (fun _ _ => ?_)
    refine KZq_if ?_ ?_
    · skip
      refine KZq_pu ?_
      exact KZq_some (fz_sI (by decide) kzq_rf)
    · skip
      exact KZq_some kzq_rf
theorem kz_F_begins {N : Nat} {l1 : Int32} {u : RSt}  : KZq (F_begins N l1 u) u := by
  unfold F_begins
  exact kz_B_begins_0.tr kzq_rf
theorem kz_B_ends_0 {N : Nat} {l1 : Int32} {u : RSt}  : KZq (B_ends_0 N l1 u) u := by
  unfold B_ends_0
  refine KZq_bn (kz_F_take.tr kzq_rf) (fun _ _ => ?_)
  refine KZq_pu ?_
  exact KZq_some (fz_sI (by decide) kzq_rf)
theorem kz_F_ends {N : Nat} {l1 : Int32} {u : RSt}  : KZq (F_ends N l1 u) u := by
  unfold F_ends
  exact kz_B_ends_0.tr kzq_rf
theorem kz_B_isNumber_16 {N : Nat} {u : RSt}  : KZq (B_isNumber_16 N u) u := by
  unfold B_isNumber_16
  exact KZq_some kzq_rf
theorem kz_B_isNumber_0 {N : Nat} {u : RSt}  : KZq (B_isNumber_0 N u) u := by
  unfold B_isNumber_0
  refine KZq_bn (kz_F_is.tr kzq_rf) (fun _ _ => ?_)
  refine KZq_if ?_ ?_
  · skip
    refine KZq_bn (kz_F_is.tr kzq_rf) (fun _ _ => ?_)
    refine KZq_if ?_ ?_
    · skip
      exact KZq_some kzq_rf
    · skip
      exact kz_B_isNumber_16.tr kzq_rf
  · skip
    exact kz_B_isNumber_16.tr kzq_rf
theorem kz_F_isNumber {N : Nat} {u : RSt}  : KZq (F_isNumber N u) u := by
  unfold F_isNumber
  exact kz_B_isNumber_0.tr kzq_rf
theorem pp_wv {β : Type} {m : Nat} {i : Int32} {x : RSt} {k : RSt → Option (β × RSt)} {Q : β → RSt → Prop} (h : vp_in i m → pp (k x) Q) : pp (wr m i x k) Q := by
  intro r w e
  have q : wp (wr m i x k) (fun r' w' => r' = r ∧ w' = w) := ⟨r, w, e, rfl, rfl⟩
  obtain ⟨hv, r1, w1, e1, rfl, rfl⟩ := wp_wr.mp q
  exact h hv _ _ e1
theorem em_z {N : Nat} {l1 l2 l3 : Int32} {u : RSt} : pp (B_emit_0 N l1 l2 l3 u) (fun r w => kzq u w ∧ w.1 = u.1 ∧ (¬ u.1 69 = 0 → u.1 67 = 0 → ∀ s : Nat, (u.1 56).toInt = (s : Int) → 0 ≤ (u.2.2.1 54 s).toInt → (u.2.2.1 54 s).toInt ≤ 100000 → 8000 * s ≤ r.toNatClampNeg ∧ (r.toNatClampNeg : Int) < 8000 * (s : Int) + (w.2.2.1 54 s).toInt)) := by
  have e1 : (1 : Int32).toInt = 1 := by decide
  have e8 : (8000 : Int32).toInt = 8000 := by decide
  unfold B_emit_0
  refine pp_if (fun c => pp_some ⟨kzq_rf, rfl, fun n => absurd c n⟩) (fun c => pp_if (fun c2 => ?_) (fun c2 => pp_some ⟨kzq_rf, rfl, fun _ n => absurd n c2⟩))
  refine pp_rd (pp_rd (pp_wv (fun hv2 => pp_wv (fun hv => pp_wr (pp_wr (pp_some ?_))))))
  have v2 := vin_iff.mp hv2
  have key : ∀ s : Nat, (u.1 56).toInt = (s : Int) → 0 ≤ (u.2.2.1 54 s).toInt → (u.2.2.1 54 s).toInt ≤ 100000 → (u.2.2.1 54 (u.1 56).toNatClampNeg + 1).toInt = (u.2.2.1 54 s).toInt + 1 ∧ (8000 * u.1 56 + u.2.2.1 54 (u.1 56).toNatClampNeg).toInt = 8000 * (s : Int) + (u.2.2.1 54 s).toInt ∧ (u.2.2.1 54 s).toInt < 16000 := by
    intro s hs h0 h1
    have ns : (u.1 56).toNatClampNeg = s := n_of hs
    have m1 : (8000 * u.1 56).toInt = 8000 * (s : Int) := by rw [tI_mul (by rw [e8, hs]; omega) (by rw [e8, hs]; omega), e8, hs]
    have m2 : (8000 * u.1 56 + u.2.2.1 54 s).toInt = 8000 * (s : Int) + (u.2.2.1 54 s).toInt := by rw [tI_add (by omega) (by omega), m1]
    have hv' := (vin_iff.mp hv).2
    rw [ns] at hv' ⊢
    rw [m2] at hv'
    exact ⟨by rw [tI_add (by omega) (by omega), e1], m2, by omega⟩
  refine ⟨⟨rfl, fun s hs h0 h1 => ?_⟩, rfl, fun _ _ s hs h0 h1 => ?_⟩
  · obtain ⟨k1, k2, k3⟩ := key s hs h0 h1
    have ns : (u.1 56).toNatClampNeg = s := n_of hs
    have e54 : (sA (sA (sA (sA u 54 (u.1 56).toNatClampNeg (u.2.2.1 54 (u.1 56).toNatClampNeg + 1)) 49 (8000 * u.1 56 + u.2.2.1 54 (u.1 56).toNatClampNeg).toNatClampNeg l1) 50 (8000 * u.1 56 + u.2.2.1 54 (u.1 56).toNatClampNeg).toNatClampNeg l2) 51 (8000 * u.1 56 + u.2.2.1 54 (u.1 56).toNatClampNeg).toNatClampNeg l3).2.2.1 54 s = u.2.2.1 54 (u.1 56).toNatClampNeg + 1 := by
      show (if s = (u.1 56).toNatClampNeg then u.2.2.1 54 (u.1 56).toNatClampNeg + 1 else u.2.2.1 54 s) = _
      rw [if_pos ns.symm]
    rw [e54, k1]
    exact ⟨by omega, by omega, fun _ _ => ⟨rfl, rfl⟩⟩
  · obtain ⟨k1, k2, k3⟩ := key s hs h0 h1
    have ns : (u.1 56).toNatClampNeg = s := n_of hs
    have e54 : (sA (sA (sA (sA u 54 (u.1 56).toNatClampNeg (u.2.2.1 54 (u.1 56).toNatClampNeg + 1)) 49 (8000 * u.1 56 + u.2.2.1 54 (u.1 56).toNatClampNeg).toNatClampNeg l1) 50 (8000 * u.1 56 + u.2.2.1 54 (u.1 56).toNatClampNeg).toNatClampNeg l2) 51 (8000 * u.1 56 + u.2.2.1 54 (u.1 56).toNatClampNeg).toNatClampNeg l3).2.2.1 54 s = u.2.2.1 54 (u.1 56).toNatClampNeg + 1 := by
      show (if s = (u.1 56).toNatClampNeg then u.2.2.1 54 (u.1 56).toNatClampNeg + 1 else u.2.2.1 54 s) = _
      rw [if_pos ns.symm]
    rw [e54, k1]
    have nn := nat_cl (show 0 ≤ (8000 * u.1 56 + u.2.2.1 54 (u.1 56).toNatClampNeg).toInt by omega)
    omega
theorem kz_B_emit_0 {N : Nat} {l1 : Int32} {l2 : Int32} {l3 : Int32} {u : RSt}  : KZq (B_emit_0 N l1 l2 l3 u) u := fun r w e => (em_z r w e).1
/-- numbers beside the instruction that was just put -/
theorem kz_at {u w : RSt} {r : Int32} {k : Nat} {a : Int64} (h : kzq u w) (hr : ∀ s : Nat, (u.1 56).toInt = (s : Int) → 0 ≤ (u.2.2.1 54 s).toInt → (u.2.2.1 54 s).toInt ≤ 100000 → 8000 * s ≤ r.toNatClampNeg ∧ (r.toNatClampNeg : Int) < 8000 * (s : Int) + (w.2.2.1 54 s).toInt) : kzq u (sB w k r.toNatClampNeg a) := by
  refine ⟨h.1, fun s hs h0 h1 => ?_⟩
  obtain ⟨a1, a2, a3⟩ := h.2 s hs h0 h1
  obtain ⟨b1, b2⟩ := hr s hs h0 h1
  refine ⟨a1, a2, fun p hp => ?_⟩
  have hp : p < 8000 * s ∨ 8000 * (s : Int) + (w.2.2.1 54 s).toInt ≤ (p : Int) := hp
  obtain ⟨c1, c2⟩ := a3 p hp
  have ne : ¬ p = r.toNatClampNeg := by omega
  constructor
  · refine Eq.trans ?_ c1
    show (if 52 = k then vp_updL (w.2.2.2 k) r.toNatClampNeg a else w.2.2.2 52) p = w.2.2.2 52 p
    by_cases e : 52 = k
    · rw [if_pos e]
      show (if p = r.toNatClampNeg then a else w.2.2.2 k p) = _
      rw [if_neg ne, ← e]
    · rw [if_neg e]
  · refine Eq.trans ?_ c2
    show (if 53 = k then vp_updL (w.2.2.2 k) r.toNatClampNeg a else w.2.2.2 53) p = w.2.2.2 53 p
    by_cases e : 53 = k
    · rw [if_pos e]
      show (if p = r.toNatClampNeg then a else w.2.2.2 k p) = _
      rw [if_neg ne, ← e]
    · rw [if_neg e]
theorem em_f {N : Nat} {l1 l2 l3 : Int32} {u : RSt} : pp (F_emit N l1 l2 l3 u) (fun r w => kzq u w ∧ w.1 = u.1 ∧ (¬ u.1 69 = 0 → u.1 67 = 0 → ∀ s : Nat, (u.1 56).toInt = (s : Int) → 0 ≤ (u.2.2.1 54 s).toInt → (u.2.2.1 54 s).toInt ≤ 100000 → 8000 * s ≤ r.toNatClampNeg ∧ (r.toNatClampNeg : Int) < 8000 * (s : Int) + (w.2.2.1 54 s).toInt)) := em_z
theorem kz_F_emit {N : Nat} {l1 : Int32} {l2 : Int32} {l3 : Int32} {u : RSt}  : KZq (F_emit N l1 l2 l3 u) u := by
  unfold F_emit
  exact kz_B_emit_0.tr kzq_rf
theorem kz_B_cost_0 {N : Nat} {l1 : Int32} {u : RSt}  : KZq (B_cost_0 N l1 u) u := by
  unfold B_cost_0
  refine KZq_bn (kz_F_emit.tr kzq_rf) (fun _ _ => ?_)
  exact KZq_some kzq_rf
theorem kz_F_cost {N : Nat} {l1 : Int32} {u : RSt}  : KZq (F_cost N l1 u) u := by
  unfold F_cost
  exact kz_B_cost_0.tr kzq_rf
theorem kz_B_push_0 {N : Nat} {l1 : Int64} {u : RSt}  : KZq (B_push_0 N l1 u) u := by
  have : pp (B_push_0 N l1 u) (fun _ w => kzq u w) := by
    unfold B_push_0
    refine pp_bn (pp_m em_f (fun r w hw => ?_))
    obtain ⟨h1, h2, h3⟩ := hw
    rw [h2]
    exact pp_if (fun _ => pp_some h1) (fun c => pp_if (fun c2 => pp_wr (pp_some (kz_at h1 (h3 c c2)))) (fun _ => pp_some h1))
  exact this
theorem kz_F_push {N : Nat} {l1 : Int64} {u : RSt}  : KZq (F_push N l1 u) u := by
  unfold F_push
  exact kz_B_push_0.tr kzq_rf
theorem kz_B_here_0 {N : Nat} {u : RSt}  : KZq (B_here_0 N u) u := by
  unfold B_here_0
  refine KZq_rd (fun _ => ?_)
  exact KZq_some kzq_rf
theorem kz_F_here {N : Nat} {u : RSt}  : KZq (F_here N u) u := by
  unfold F_here
  exact kz_B_here_0.tr kzq_rf
theorem kz_B_lead_0 {N : Nat} {l1 : Int32} {u : RSt}  : KZq (B_lead_0 N l1 u) u := by
  unfold B_lead_0
  refine KZq_if ?_ ?_
  · skip
    exact KZq_some kzq_rf
  · skip
    refine KZq_if ?_ ?_
    · skip
      refine KZq_bn (kz_F_here.tr kzq_rf) (fun _ _ => ?_)
      refine KZq_wr ?_
      exact KZq_some (fz_sA (by decide) kzq_rf)
    · skip
      exact KZq_some kzq_rf
theorem kz_F_lead {N : Nat} {l1 : Int32} {u : RSt}  : KZq (F_lead N l1 u) u := by
  unfold F_lead
  exact kz_B_lead_0.tr kzq_rf
theorem kz_B_kind_33 {N : Nat} {u : RSt}  : KZq (B_kind_33 N u) u := by
  unfold B_kind_33
  refine KZq_bn (kz_F_stuck.tr kzq_rf) (fun _ _ => ?_)
  exact KZq_some kzq_rf
theorem kz_B_kind_23 {N : Nat} {s0 : Int32} {u : RSt}  : KZq (B_kind_23 N s0 u) u := by
  unfold B_kind_23
  refine KZq_if ?_ ?_
  · skip
    exact kz_B_kind_33.tr kzq_rf
  · skip
    refine KZq_if ?_ ?_
    · skip
      refine KZq_pu ?_
      exact KZq_some (fz_sI (by decide) kzq_rf)
    · skip
      exact kz_B_kind_33.tr kzq_rf
theorem kz_B_kind_0 {N : Nat} {u : RSt}  : KZq (B_kind_0 N u) u := by
  unfold B_kind_0
  refine KZq_if ?_ ?_
  · skip
    refine KZq_rd (fun _ => ?_)
    exact kz_B_kind_23.tr kzq_rf
  · skip
    exact kz_B_kind_23.tr kzq_rf
theorem kz_F_kind {N : Nat} {u : RSt}  : KZq (F_kind N u) u := by
  unfold F_kind
  exact kz_B_kind_0.tr kzq_rf
theorem kz_B_isKind_0 {N : Nat} {l1 : Int32} {u : RSt}  : KZq (B_isKind_0 N l1 u) u := by
  unfold B_isKind_0
  refine KZq_rd (fun _ => ?_)
  refine KZq_if ?_ ?_
  · skip
    exact KZq_some kzq_rf
  · skip
    refine KZq_rd (fun _ => ?_)
    refine KZq_if ?_ ?_
    · skip
      exact KZq_some kzq_rf
    · skip
      exact KZq_some kzq_rf
theorem kz_F_isKind {N : Nat} {l1 : Int32} {u : RSt}  : KZq (F_isKind N l1 u) u := by
  unfold F_isKind
  exact kz_B_isKind_0.tr kzq_rf
theorem kz_B_named_39 {N : Nat} {R_3 : Int64 × Int64 × Int32 × RSt → Option (Int32 × RSt)} {l1 : Int64} {l3 : Int64} {l5 : Int32} {u : RSt} (h_R_3 : ∀ a, KZq (R_3 a) a.2.2.2) : KZq (B_named_39 N R_3 l1 l3 l5 u) u := by
  unfold B_named_39
  exact (h_R_3 _).tr kzq_rf
theorem kz_B_named_3 {N : Nat} {R_3 : Int64 × Int64 × Int32 × RSt → Option (Int32 × RSt)} {l1 : Int64} {l3 : Int64} {l5 : Int32} {u : RSt} (h_R_3 : ∀ a, KZq (R_3 a) a.2.2.2) : KZq (B_named_3 N R_3 l1 l3 l5 u) u := by
  unfold B_named_3
  refine KZq_if ?_ ?_
  · skip
    exact KZq_some kzq_rf
  · skip
    refine KZq_rd (fun _ => ?_)
    refine KZq_if ?_ ?_
    · skip
      refine KZq_rd (fun _ => ?_)
      refine KZq_if ?_ ?_
      · skip
        exact KZq_some kzq_rf
      · skip
        exact (kz_B_named_39 h_R_3).tr kzq_rf
    · skip
      exact (kz_B_named_39 h_R_3).tr kzq_rf
theorem kz_LP_named_3 {N : Nat}  (n : Nat) : ∀ a : Int64 × Int64 × Int32 × RSt, KZq (LP_named_3 N n a) a.2.2.2 := by
  induction n with
  | zero => exact fun a r z e => by have e : (none : Option _) = some (r, z) := e; cases e
  | succ n ih =>
    intro a
    show KZq (B_named_3 N (LP_named_3 N n) a.1 a.2.1 a.2.2.1 a.2.2.2) a.2.2.2
    exact kz_B_named_3 ih
theorem kz_B_named_0 {N : Nat} {l1 : Int64} {l3 : Int64} {u : RSt}  : KZq (B_named_0 N l1 l3 u) u := by
  unfold B_named_0
  exact (kz_LP_named_3  _ _).tr kzq_rf
theorem kz_F_named {N : Nat} {l1 : Int64} {l3 : Int64} {u : RSt}  : KZq (F_named N l1 l3 u) u := by
  unfold F_named
  exact kz_B_named_0.tr kzq_rf
theorem kz_B_slotOf_82 {N : Nat} {R_6 : Int64 × Int64 × Int32 × RSt → Option (Int32 × RSt)} {l1 : Int64} {l3 : Int64} {l5 : Int32} {u : RSt} (h_R_6 : ∀ a, KZq (R_6 a) a.2.2.2) : KZq (B_slotOf_82 N R_6 l1 l3 l5 u) u := by
  unfold B_slotOf_82
  exact (h_R_6 _).tr kzq_rf
theorem kz_B_slotOf_6 {N : Nat} {R_6 : Int64 × Int64 × Int32 × RSt → Option (Int32 × RSt)} {l1 : Int64} {l3 : Int64} {l5 : Int32} {u : RSt} (h_R_6 : ∀ a, KZq (R_6 a) a.2.2.2) : KZq (B_slotOf_6 N R_6 l1 l3 l5 u) u := by
  unfold B_slotOf_6
  refine KZq_if ?_ ?_
  · skip
    exact KZq_some kzq_rf
  · skip
    refine KZq_rd (fun _ => ?_)
    refine KZq_if ?_ ?_
    · skip
      exact KZq_some kzq_rf
    · skip
      refine KZq_rd (fun _ => ?_)
      refine KZq_if ?_ ?_
      · skip
        refine KZq_rd (fun _ => ?_)
        refine KZq_if ?_ ?_
        · skip
          exact KZq_some kzq_rf
        · skip
          exact (kz_B_slotOf_82 h_R_6).tr kzq_rf
      · skip
        exact (kz_B_slotOf_82 h_R_6).tr kzq_rf
theorem kz_LP_slotOf_6 {N : Nat}  (n : Nat) : ∀ a : Int64 × Int64 × Int32 × RSt, KZq (LP_slotOf_6 N n a) a.2.2.2 := by
  induction n with
  | zero => exact fun a r z e => by have e : (none : Option _) = some (r, z) := e; cases e
  | succ n ih =>
    intro a
    show KZq (B_slotOf_6 N (LP_slotOf_6 N n) a.1 a.2.1 a.2.2.1 a.2.2.2) a.2.2.2
    exact kz_B_slotOf_6 ih
theorem kz_B_slotOf_0 {N : Nat} {l1 : Int64} {l3 : Int64} {u : RSt}  : KZq (B_slotOf_0 N l1 l3 u) u := by
  unfold B_slotOf_0
  exact (kz_LP_slotOf_6  _ _).tr kzq_rf
theorem kz_F_slotOf {N : Nat} {l1 : Int64} {l3 : Int64} {u : RSt}  : KZq (F_slotOf N l1 l3 u) u := by
  unfold F_slotOf
  exact kz_B_slotOf_0.tr kzq_rf
theorem kz_B_own_0 {N : Nat} {l1 : Int32} {u : RSt}  : KZq (B_own_0 N l1 u) u := by
  unfold B_own_0
  refine KZq_if ?_ ?_
  · skip
    exact KZq_some kzq_rf
  · skip
    refine KZq_rd (fun _ => ?_)
    refine KZq_rd (fun _ => ?_)
    refine KZq_bn (kz_F_slotOf.tr kzq_rf) (fun _ _ => ?_)
    refine KZq_if ?_ ?_
    · skip
      refine KZq_rd (fun _ => ?_)
      refine KZq_rd (fun _ => ?_)
      refine KZq_bn (kz_F_named.tr kzq_rf) (fun _ _ => ?_)
      refine KZq_if ?_ ?_
      · skip
        exact KZq_some kzq_rf
      · skip
        refine KZq_rd (fun _ => ?_)
        refine KZq_if ?_ ?_
        · skip
          refine KZq_rd (fun _ => ?_)
          exact KZq_some kzq_rf
        · skip
          exact KZq_some kzq_rf
    · skip
      exact KZq_some kzq_rf
theorem kz_F_own {N : Nat} {l1 : Int32} {u : RSt}  : KZq (F_own N l1 u) u := by
  unfold F_own
  exact kz_B_own_0.tr kzq_rf
theorem kz_B_telling_65 {N : Nat} {l1 : Int32} {l2 : Int32} {s1 : Int32} {u : RSt}  : KZq (B_telling_65 N l1 l2 s1 u) u := by
  unfold B_telling_65
  refine KZq_rd (fun _ => ?_)
  refine KZq_bn (kz_F_wrong.tr kzq_rf) (fun _ _ => ?_)
  refine KZq_if ?_ ?_
  · skip
    exact KZq_some kzq_rf
  · skip
    refine KZq_if ?_ ?_
    · skip
      refine KZq_pu ?_
      refine KZq_rd (fun _ => ?_)
      refine KZq_wr ?_
      refine KZq_rd (fun _ => ?_)
      refine KZq_wr ?_
      refine KZq_wr ?_
      refine KZq_wr ?_
      refine KZq_pu ?_
      exact KZq_some (fz_sI (by decide) (fz_sA (by decide) (fz_sA (by decide) (fz_sB (by decide) (fz_sB (by decide) (fz_sI (by decide) kzq_rf))))))
    · skip
      exact KZq_some kzq_rf
theorem kz_B_telling_60 {N : Nat} {l1 : Int32} {l2 : Int32} {u : RSt}  : KZq (B_telling_60 N l1 l2 u) u := by
  unfold B_telling_60
  exact kz_B_telling_65.tr kzq_rf
theorem kz_B_telling_32 {N : Nat} {l1 : Int32} {l2 : Int32} {l3 : Int32} {s1 : Int32} {u : RSt}  : KZq (B_telling_32 N l1 l2 l3 s1 u) u := by
  unfold B_telling_32
  refine KZq_rd (fun _ => ?_)
  refine KZq_bn (kz_F_wrong.tr kzq_rf) (fun _ _ => ?_)
  refine KZq_if ?_ ?_
  · skip
    exact kz_B_telling_60.tr kzq_rf
  · skip
    refine KZq_if ?_ ?_
    · skip
      exact kz_B_telling_65.tr kzq_rf
    · skip
      exact kz_B_telling_60.tr kzq_rf
theorem kz_B_telling_0 {N : Nat} {l1 : Int32} {l2 : Int32} {l3 : Int32} {u : RSt}  : KZq (B_telling_0 N l1 l2 l3 u) u := by
  unfold B_telling_0
  refine KZq_rd (fun _ => ?_)
  refine KZq_rd (fun _ => ?_)
  refine KZq_bn (kz_F_named.tr kzq_rf) (fun _ _ => ?_)
  refine KZq_if ?_ ?_
  · skip
    exact kz_B_telling_32.tr kzq_rf
  · skip
    exact kz_B_telling_32.tr kzq_rf
theorem kz_F_telling {N : Nat} {l1 : Int32} {l2 : Int32} {l3 : Int32} {u : RSt}  : KZq (F_telling N l1 l2 l3 u) u := by
  unfold F_telling
  exact kz_B_telling_0.tr kzq_rf
theorem kz_B_constant_86 {N : Nat} {s1 : Int64} {u : RSt}  : KZq (B_constant_86 N s1 u) u := by
  unfold B_constant_86
  refine KZq_pu ?_
  refine KZq_pu ?_
  exact KZq_some (fz_sI (by decide) (fz_sL kzq_rf))
theorem kz_B_constant_28 {N : Nat} {l1 : Int32} {u : RSt}  : KZq (B_constant_28 N l1 u) u := by
  unfold B_constant_28
  refine KZq_bn (kz_F_is.tr kzq_rf) (fun _ _ => ?_)
  refine KZq_rd (fun _ => ?_)
  refine KZq_bn (kz_F_wrong.tr kzq_rf) (fun _ _ => ?_)
  refine KZq_if ?_ ?_
  · skip
    refine KZq_rd (fun _ => ?_)
    exact kz_B_constant_86.tr kzq_rf
  · skip
    refine KZq_rd (fun _ => ?_)
    refine KZq_rd (fun _ => ?_)
    exact kz_B_constant_86.tr kzq_rf
theorem kz_B_constant_0 {N : Nat} {u : RSt}  : KZq (B_constant_0 N u) u := by
  unfold B_constant_0
  refine KZq_bn (kz_F_has.tr kzq_rf) (fun _ _ => ?_)
  refine KZq_bn (kz_F_isNumber.tr kzq_rf) (fun _ _ => ?_)
  refine KZq_if ?_ ?_
  · skip
    refine KZq_bn (kz_F_is.tr kzq_rf) (fun _ _ => ?_)
    refine KZq_if ?_ ?_
    · skip
      refine KZq_bn (kz_F_stuck.tr kzq_rf) (fun _ _ => ?_)
      exact KZq_some kzq_rf
    · skip
      exact kz_B_constant_28.tr kzq_rf
  · skip
    exact kz_B_constant_28.tr kzq_rf
theorem kz_F_constant {N : Nat} {u : RSt}  : KZq (F_constant N u) u := by
  unfold F_constant
  exact kz_B_constant_0.tr kzq_rf
theorem kz_B_bounded_57 {N : Nat} {s1 : Int32} {u : RSt}  : KZq (B_bounded_57 N s1 u) u := by
  unfold B_bounded_57
  refine KZq_rd (fun _ => ?_)
  refine KZq_bn (kz_F_wrong.tr kzq_rf) (fun _ _ => ?_)
  refine KZq_pu ?_
  refine KZq_rd (fun _ => ?_)
  exact KZq_some (fz_sI (by decide) kzq_rf)
theorem kz_B_bounded_52 {N : Nat} {u : RSt}  : KZq (B_bounded_52 N u) u := by
  unfold B_bounded_52
  exact kz_B_bounded_57.tr kzq_rf
theorem kz_B_bounded_0 {N : Nat} {l1 : Int32} {l2 : Int32} {u : RSt}  : KZq (B_bounded_0 N l1 l2 u) u := by
  unfold B_bounded_0
  refine KZq_bn (kz_F_isNumber.tr kzq_rf) (fun _ _ => ?_)
  refine KZq_if ?_ ?_
  · skip
    refine KZq_bn (kz_F_stuck.tr kzq_rf) (fun _ _ => ?_)
    exact KZq_some kzq_rf
  · skip
    refine KZq_bn (kz_F_is.tr kzq_rf) (fun _ _ => ?_)
    refine KZq_if ?_ ?_
    · skip
      refine KZq_rd (fun _ => ?_)
      refine KZq_if ?_ ?_
      · skip
        exact kz_B_bounded_52.tr kzq_rf
      · skip
        refine KZq_rd (fun _ => ?_)
        refine KZq_if ?_ ?_
        · skip
          exact kz_B_bounded_57.tr kzq_rf
        · skip
          exact kz_B_bounded_52.tr kzq_rf
    · skip
      exact kz_B_bounded_52.tr kzq_rf
theorem kz_F_bounded {N : Nat} {l1 : Int32} {l2 : Int32} {u : RSt}  : KZq (F_bounded N l1 l2 u) u := by
  unfold F_bounded
  exact kz_B_bounded_0.tr kzq_rf
theorem kz_B_local_86 {N : Nat} {s1 : Int32} {u : RSt}  : KZq (B_local_86 N s1 u) u := by
  unfold B_local_86
  refine KZq_rd (fun _ => ?_)
  refine KZq_bn (kz_F_wrong.tr kzq_rf) (fun _ _ => ?_)
  refine KZq_if ?_ ?_
  · skip
    exact KZq_some kzq_rf
  · skip
    refine KZq_if ?_ ?_
    · skip
      refine KZq_pu ?_
      exact KZq_some (fz_sI (by decide) kzq_rf)
    · skip
      exact KZq_some kzq_rf
theorem kz_B_local_81 {N : Nat} {u : RSt}  : KZq (B_local_81 N u) u := by
  unfold B_local_81
  exact kz_B_local_86.tr kzq_rf
theorem kz_B_local_85 {N : Nat} {u : RSt}  : KZq (B_local_85 N u) u := by
  unfold B_local_85
  exact kz_B_local_86.tr kzq_rf
theorem kz_B_local_32 {N : Nat} {l1 : Int32} {s1 : Int32} {u : RSt}  : KZq (B_local_32 N l1 s1 u) u := by
  unfold B_local_32
  refine KZq_rd (fun _ => ?_)
  refine KZq_bn (kz_F_wrong.tr kzq_rf) (fun _ _ => ?_)
  refine KZq_if ?_ ?_
  · skip
    exact kz_B_local_81.tr kzq_rf
  · skip
    refine KZq_if ?_ ?_
    · skip
      exact kz_B_local_85.tr kzq_rf
    · skip
      refine KZq_if ?_ ?_
      · skip
        exact kz_B_local_85.tr kzq_rf
      · skip
        refine KZq_rd (fun _ => ?_)
        refine KZq_if ?_ ?_
        · skip
          exact kz_B_local_81.tr kzq_rf
        · skip
          exact kz_B_local_85.tr kzq_rf
theorem kz_B_local_0 {N : Nat} {l1 : Int32} {u : RSt}  : KZq (B_local_0 N l1 u) u := by
  unfold B_local_0
  refine KZq_rd (fun _ => ?_)
  refine KZq_rd (fun _ => ?_)
  refine KZq_bn (kz_F_slotOf.tr kzq_rf) (fun _ _ => ?_)
  refine KZq_if ?_ ?_
  · skip
    exact kz_B_local_32.tr kzq_rf
  · skip
    exact kz_B_local_32.tr kzq_rf
theorem kz_F_local {N : Nat} {l1 : Int32} {u : RSt}  : KZq (F_local N l1 u) u := by
  unfold F_local
  exact kz_B_local_0.tr kzq_rf
theorem kz_B_addSlot_17 {N : Nat} {l1 : Int32} {l2 : Int32} {l3 : Int32} {l4 : Int32} {l5 : Int64} {s1 : Int32} {u : RSt}  : KZq (B_addSlot_17 N l1 l2 l3 l4 l5 s1 u) u := by
  unfold B_addSlot_17
  refine KZq_rd (fun _ => ?_)
  refine KZq_bn (kz_F_wrong.tr kzq_rf) (fun _ _ => ?_)
  refine KZq_if ?_ ?_
  · skip
    exact KZq_some kzq_rf
  · skip
    refine KZq_if ?_ ?_
    · skip
      refine KZq_rd (fun _ => ?_)
      refine KZq_wr ?_
      refine KZq_wr ?_
      refine KZq_wr ?_
      refine KZq_wr ?_
      refine KZq_wr ?_
      refine KZq_rd (fun _ => ?_)
      refine KZq_wr ?_
      refine KZq_rd (fun _ => ?_)
      refine KZq_wr ?_
      refine KZq_rd (fun _ => ?_)
      refine KZq_wr ?_
      refine KZq_pu ?_
      refine KZq_rd (fun _ => ?_)
      refine KZq_wr ?_
      refine KZq_wr ?_
      exact KZq_some (fz_sA (by decide) (fz_sA (by decide) (fz_sI (by decide) (fz_sA (by decide) (fz_sB (by decide) (fz_sB (by decide) (fz_sB (by decide) (fz_sA (by decide) (fz_sA (by decide) (fz_sA (by decide) (fz_sA (by decide) kzq_rf)))))))))))
    · skip
      exact KZq_some kzq_rf
theorem kz_B_addSlot_0 {N : Nat} {l1 : Int32} {l2 : Int32} {l3 : Int32} {l4 : Int32} {l5 : Int64} {u : RSt}  : KZq (B_addSlot_0 N l1 l2 l3 l4 l5 u) u := by
  unfold B_addSlot_0
  refine KZq_if ?_ ?_
  · skip
    exact kz_B_addSlot_17.tr kzq_rf
  · skip
    exact kz_B_addSlot_17.tr kzq_rf
theorem kz_F_addSlot {N : Nat} {l1 : Int32} {l2 : Int32} {l3 : Int32} {l4 : Int32} {l5 : Int64} {u : RSt}  : KZq (F_addSlot N l1 l2 l3 l4 l5 u) u := by
  unfold F_addSlot
  exact kz_B_addSlot_0.tr kzq_rf
theorem kz_B_addVariable_219 {N : Nat} {s1 : Int32} {s2 : Int32} {u : RSt}  : KZq (B_addVariable_219 N s1 s2 u) u := by
  unfold B_addVariable_219
  refine KZq_pu ?_
  refine KZq_rd (fun _ => ?_)
  refine KZq_wr ?_
  exact KZq_some (fz_sA (by decide) (fz_sI (by decide) kzq_rf))
theorem kz_B_addVariable_202 {N : Nat} {l3 : Int32} {l4 : Int32} {s1 : Int32} {s2 : Int32} {u : RSt}  : KZq (B_addVariable_202 N l3 l4 s1 s2 u) u := by
  unfold B_addVariable_202
  refine KZq_wr ?_
  refine KZq_if ?_ ?_
  · skip
    exact kz_B_addVariable_219.tr (fz_sA (by decide) kzq_rf)
  · skip
    exact kz_B_addVariable_219.tr (fz_sA (by decide) kzq_rf)
theorem kz_B_addVariable_51 {N : Nat} {l1 : Int32} {l2 : Int32} {l3 : Int32} {l4 : Int32} {l5 : Int32} {l6 : Int32} {l7 : Int64} {u : RSt}  : KZq (B_addVariable_51 N l1 l2 l3 l4 l5 l6 l7 u) u := by
  unfold B_addVariable_51
  refine KZq_if ?_ ?_
  · skip
    exact KZq_some kzq_rf
  · skip
    refine KZq_if ?_ ?_
    · skip
      refine KZq_rd (fun _ => ?_)
      refine KZq_wr ?_
      refine KZq_wr ?_
      refine KZq_wr ?_
      refine KZq_wr ?_
      refine KZq_wr ?_
      refine KZq_wr ?_
      refine KZq_rd (fun _ => ?_)
      refine KZq_wr ?_
      refine KZq_rd (fun _ => ?_)
      refine KZq_wr ?_
      refine KZq_if ?_ ?_
      · skip
        refine KZq_if ?_ ?_
        · skip
          exact kz_B_addVariable_202.tr (fz_sB (by decide) (fz_sB (by decide) (fz_sB (by decide) (fz_sA (by decide) (fz_sA (by decide) (fz_sA (by decide) (fz_sA (by decide) (fz_sA (by decide) kzq_rf))))))))
        · skip
          exact kz_B_addVariable_202.tr (fz_sB (by decide) (fz_sB (by decide) (fz_sB (by decide) (fz_sA (by decide) (fz_sA (by decide) (fz_sA (by decide) (fz_sA (by decide) (fz_sA (by decide) kzq_rf))))))))
      · skip
        exact kz_B_addVariable_202.tr (fz_sB (by decide) (fz_sB (by decide) (fz_sB (by decide) (fz_sA (by decide) (fz_sA (by decide) (fz_sA (by decide) (fz_sA (by decide) (fz_sA (by decide) kzq_rf))))))))
    · skip
      exact KZq_some kzq_rf
theorem kz_B_addVariable_41 {N : Nat} {l1 : Int32} {l2 : Int32} {l3 : Int32} {l4 : Int32} {l5 : Int32} {l6 : Int32} {l7 : Int64} {s1 : Int32} {u : RSt}  : KZq (B_addVariable_41 N l1 l2 l3 l4 l5 l6 l7 s1 u) u := by
  unfold B_addVariable_41
  refine KZq_rd (fun _ => ?_)
  refine KZq_bn (kz_F_wrong.tr kzq_rf) (fun _ _ => ?_)
  exact kz_B_addVariable_51.tr kzq_rf
theorem kz_B_addVariable_0 {N : Nat} {l1 : Int32} {l2 : Int32} {l3 : Int32} {l4 : Int32} {l5 : Int32} {l6 : Int32} {l7 : Int64} {u : RSt}  : KZq (B_addVariable_0 N l1 l2 l3 l4 l5 l6 l7 u) u := by
  unfold B_addVariable_0
  refine KZq_if ?_ ?_
  · skip
    exact kz_B_addVariable_51.tr kzq_rf
  · skip
    refine KZq_if ?_ ?_
    · skip
      exact kz_B_addVariable_51.tr kzq_rf
    · skip
      refine KZq_rd (fun _ => ?_)
      refine KZq_wr ?_
      refine KZq_rd (fun _ => ?_)
      refine KZq_if ?_ ?_
      · skip
        exact kz_B_addVariable_41.tr (fz_sA (by decide) kzq_rf)
      · skip
        exact kz_B_addVariable_41.tr (fz_sA (by decide) kzq_rf)
theorem kz_F_addVariable {N : Nat} {l1 : Int32} {l2 : Int32} {l3 : Int32} {l4 : Int32} {l5 : Int32} {l6 : Int32} {l7 : Int64} {u : RSt}  : KZq (F_addVariable N l1 l2 l3 l4 l5 l6 l7 u) u := by
  unfold F_addVariable
  exact kz_B_addVariable_0.tr kzq_rf
theorem kz_B_isTooWide_25 {N : Nat} {l1 : Int32} {l2 : Int32} {u : RSt}  : KZq (B_isTooWide_25 N l1 l2 u) u := by
  unfold B_isTooWide_25
  refine KZq_if ?_ ?_
  · skip
    refine KZq_if ?_ ?_
    · skip
      exact KZq_some kzq_rf
    · skip
      exact KZq_some kzq_rf
  · skip
    refine KZq_if ?_ ?_
    · skip
      refine KZq_if ?_ ?_
      · skip
        exact KZq_some kzq_rf
      · skip
        exact KZq_some kzq_rf
    · skip
      refine KZq_if ?_ ?_
      · skip
        refine KZq_if ?_ ?_
        · skip
          exact KZq_some kzq_rf
        · skip
          exact KZq_some kzq_rf
      · skip
        refine KZq_if ?_ ?_
        · skip
          refine KZq_if ?_ ?_
          · skip
            exact KZq_some kzq_rf
          · skip
            exact KZq_some kzq_rf
        · skip
          exact KZq_some kzq_rf
theorem kz_B_isTooWide_0 {N : Nat} {l1 : Int32} {l2 : Int32} {u : RSt}  : KZq (B_isTooWide_0 N l1 l2 u) u := by
  unfold B_isTooWide_0
  refine KZq_if ?_ ?_
  · skip
    exact KZq_some kzq_rf
  · skip
    refine KZq_if ?_ ?_
    · skip
      exact kz_B_isTooWide_25.tr kzq_rf
    · skip
      refine KZq_if ?_ ?_
      · skip
        exact kz_B_isTooWide_25.tr kzq_rf
      · skip
        exact KZq_some kzq_rf
theorem kz_F_isTooWide {N : Nat} {l1 : Int32} {l2 : Int32} {u : RSt}  : KZq (F_isTooWide N l1 l2 u) u := by
  unfold F_isTooWide
  exact kz_B_isTooWide_0.tr kzq_rf
theorem kz_B_strength_193 {N : Nat} {u : RSt}  : KZq (B_strength_193 N u) u := by
  unfold B_strength_193
  exact KZq_some kzq_rf
theorem kz_B_strength_228 {N : Nat} {u : RSt}  : KZq (B_strength_228 N u) u := by
  unfold B_strength_228
  exact KZq_some kzq_rf
theorem kz_B_strength_278 {N : Nat} {u : RSt}  : KZq (B_strength_278 N u) u := by
  unfold B_strength_278
  exact KZq_some kzq_rf
theorem kz_B_strength_0 {N : Nat} {u : RSt}  : KZq (B_strength_0 N u) u := by
  unfold B_strength_0
  refine KZq_if ?_ ?_
  · skip
    refine KZq_rd (fun _ => ?_)
    refine KZq_if ?_ ?_
    · skip
      exact KZq_some kzq_rf
    · skip
      refine KZq_if ?_ ?_
      · skip
        exact KZq_some kzq_rf
      · skip
        refine KZq_if ?_ ?_
        · skip
          exact KZq_some kzq_rf
        · skip
          refine KZq_if ?_ ?_
          · skip
            exact KZq_some kzq_rf
          · skip
            refine KZq_if ?_ ?_
            · skip
              exact KZq_some kzq_rf
            · skip
              refine KZq_if ?_ ?_
              · skip
                exact KZq_some kzq_rf
              · skip
                refine KZq_if ?_ ?_
                · skip
                  exact KZq_some kzq_rf
                · skip
                  refine KZq_if ?_ ?_
                  · skip
                    exact KZq_some kzq_rf
                  · skip
                    refine KZq_if ?_ ?_
                    · skip
                      exact KZq_some kzq_rf
                    · skip
                      refine KZq_if ?_ ?_
                      · skip
                        exact KZq_some kzq_rf
                      · skip
                        refine KZq_if ?_ ?_
                        · skip
                          exact KZq_some kzq_rf
                        · skip
                          refine KZq_rd (fun _ => ?_)
                          refine KZq_if ?_ ?_
                          · skip
                            exact kz_B_strength_193.tr kzq_rf
                          · skip
                            refine KZq_rd (fun _ => ?_)
                            refine KZq_if ?_ ?_
                            · skip
                              exact kz_B_strength_193.tr kzq_rf
                            · skip
                              refine KZq_rd (fun _ => ?_)
                              refine KZq_if ?_ ?_
                              · skip
                                exact kz_B_strength_193.tr kzq_rf
                              · skip
                                refine KZq_rd (fun _ => ?_)
                                refine KZq_if ?_ ?_
                                · skip
                                  exact kz_B_strength_228.tr kzq_rf
                                · skip
                                  refine KZq_rd (fun _ => ?_)
                                  refine KZq_if ?_ ?_
                                  · skip
                                    exact kz_B_strength_228.tr kzq_rf
                                  · skip
                                    refine KZq_rd (fun _ => ?_)
                                    refine KZq_if ?_ ?_
                                    · skip
                                      exact kz_B_strength_278.tr kzq_rf
                                    · skip
                                      refine KZq_rd (fun _ => ?_)
                                      refine KZq_if ?_ ?_
                                      · skip
                                        exact kz_B_strength_278.tr kzq_rf
                                      · skip
                                        refine KZq_rd (fun _ => ?_)
                                        refine KZq_if ?_ ?_
                                        · skip
                                          exact kz_B_strength_278.tr kzq_rf
                                        · skip
                                          exact KZq_some kzq_rf
  · skip
    exact KZq_some kzq_rf
theorem kz_F_strength {N : Nat} {u : RSt}  : KZq (F_strength N u) u := by
  unfold F_strength
  exact kz_B_strength_0.tr kzq_rf
theorem kz_B_joined_139 {N : Nat} {l6 : Int32} {s0 : Int32} {u : RSt}  : KZq (B_joined_139 N l6 s0 u) u := by
  unfold B_joined_139
  refine KZq_if ?_ ?_
  · skip
    exact KZq_some kzq_rf
  · skip
    refine KZq_if ?_ ?_
    · skip
      exact KZq_some kzq_rf
    · skip
      exact KZq_some kzq_rf
theorem kz_B_joined_134 {N : Nat} {l6 : Int32} {u : RSt}  : KZq (B_joined_134 N l6 u) u := by
  unfold B_joined_134
  exact kz_B_joined_139.tr kzq_rf
theorem kz_B_joined_92 {N : Nat} {l1 : Int32} {l6 : Int32} {u : RSt}  : KZq (B_joined_92 N l1 l6 u) u := by
  unfold B_joined_92
  refine KZq_if ?_ ?_
  · skip
    exact kz_B_joined_134.tr kzq_rf
  · skip
    refine KZq_if ?_ ?_
    · skip
      exact kz_B_joined_134.tr kzq_rf
    · skip
      refine KZq_if ?_ ?_
      · skip
        exact kz_B_joined_134.tr kzq_rf
      · skip
        refine KZq_if ?_ ?_
        · skip
          exact kz_B_joined_134.tr kzq_rf
        · skip
          refine KZq_if ?_ ?_
          · skip
            exact kz_B_joined_134.tr kzq_rf
          · skip
            refine KZq_if ?_ ?_
            · skip
              exact kz_B_joined_134.tr kzq_rf
            · skip
              exact kz_B_joined_139.tr kzq_rf
theorem kz_B_joined_49 {N : Nat} {l1 : Int32} {l2 : Int32} {s0 : Int32} {u : RSt}  : KZq (B_joined_49 N l1 l2 s0 u) u := by
  have : pp (B_joined_49 N l1 l2 s0 u) (fun _ w => kzq u w) := by
    unfold B_joined_49 B_joined_91
    refine pp_bn (pp_m em_f (fun r w hw => ?_))
    obtain ⟨h1, h2, h3⟩ := hw
    rw [h2]
    exact pp_if (fun _ r w e => kzq_tr h1 (kz_B_joined_92 r w e)) (fun c => pp_if (fun c2 => pp_if (fun _ => pp_wr (fun r w e => kzq_tr (kz_at h1 (h3 c c2)) (kz_B_joined_92 r w e))) (fun _ => pp_wr (fun r w e => kzq_tr (kz_at h1 (h3 c c2)) (kz_B_joined_92 r w e)))) (fun _ r w e => kzq_tr h1 (kz_B_joined_92 r w e)))
  exact this
theorem kz_B_joined_44 {N : Nat} {l1 : Int32} {l2 : Int32} {u : RSt}  : KZq (B_joined_44 N l1 l2 u) u := by
  unfold B_joined_44
  exact kz_B_joined_49.tr kzq_rf
theorem kz_B_joined_48 {N : Nat} {l1 : Int32} {l2 : Int32} {u : RSt}  : KZq (B_joined_48 N l1 l2 u) u := by
  unfold B_joined_48
  exact kz_B_joined_49.tr kzq_rf
theorem kz_B_joined_26 {N : Nat} {l1 : Int32} {l2 : Int32} {l3 : Int32} {l4 : Int32} {s0 : Int32} {u : RSt}  : KZq (B_joined_26 N l1 l2 l3 l4 s0 u) u := by
  unfold B_joined_26
  refine KZq_if ?_ ?_
  · skip
    exact kz_B_joined_44.tr kzq_rf
  · skip
    refine KZq_if ?_ ?_
    · skip
      refine KZq_if ?_ ?_
      · skip
        exact kz_B_joined_44.tr kzq_rf
      · skip
        exact kz_B_joined_48.tr kzq_rf
    · skip
      exact kz_B_joined_48.tr kzq_rf
theorem kz_B_joined_21 {N : Nat} {l1 : Int32} {l2 : Int32} {l3 : Int32} {l4 : Int32} {u : RSt}  : KZq (B_joined_21 N l1 l2 l3 l4 u) u := by
  unfold B_joined_21
  exact kz_B_joined_26.tr kzq_rf
theorem kz_B_joined_0 {N : Nat} {l1 : Int32} {l2 : Int32} {l3 : Int32} {l4 : Int32} {u : RSt}  : KZq (B_joined_0 N l1 l2 l3 l4 u) u := by
  unfold B_joined_0
  refine KZq_if ?_ ?_
  · skip
    exact kz_B_joined_21.tr kzq_rf
  · skip
    refine KZq_if ?_ ?_
    · skip
      exact kz_B_joined_21.tr kzq_rf
    · skip
      refine KZq_if ?_ ?_
      · skip
        exact kz_B_joined_21.tr kzq_rf
      · skip
        exact kz_B_joined_26.tr kzq_rf
theorem kz_F_joined {N : Nat} {l1 : Int32} {l2 : Int32} {l3 : Int32} {l4 : Int32} {u : RSt}  : KZq (F_joined N l1 l2 l3 l4 u) u := by
  unfold F_joined
  exact kz_B_joined_0.tr kzq_rf
theorem kz_B_leadAll_2 {N : Nat} {R_2 : Int32 × RSt → Option (Int32 × RSt)} {l2 : Int32} {u : RSt} (h_R_2 : ∀ a, KZq (R_2 a) a.2) : KZq (B_leadAll_2 N R_2 l2 u) u := by
  unfold B_leadAll_2
  refine KZq_if ?_ ?_
  · skip
    exact KZq_some kzq_rf
  · skip
    refine KZq_if ?_ ?_
    · skip
      refine KZq_if ?_ ?_
      · skip
        exact KZq_some kzq_rf
      · skip
        refine KZq_rd (fun _ => ?_)
        refine KZq_bn (kz_F_here.tr kzq_rf) (fun _ _ => ?_)
        refine KZq_wr ?_
        exact (h_R_2 _).tr (fz_sA (by decide) kzq_rf)
    · skip
      exact KZq_some kzq_rf
theorem kz_LP_leadAll_2 {N : Nat}  (n : Nat) : ∀ a : Int32 × RSt, KZq (LP_leadAll_2 N n a) a.2 := by
  induction n with
  | zero => exact fun a r z e => by have e : (none : Option _) = some (r, z) := e; cases e
  | succ n ih =>
    intro a
    show KZq (B_leadAll_2 N (LP_leadAll_2 N n) a.1 a.2) a.2
    exact kz_B_leadAll_2 ih
theorem kz_B_leadAll_0 {N : Nat} {l1 : Int32} {u : RSt}  : KZq (B_leadAll_0 N l1 u) u := by
  unfold B_leadAll_0
  exact (kz_LP_leadAll_2  _ _).tr kzq_rf
theorem kz_F_leadAll {N : Nat} {l1 : Int32} {u : RSt}  : KZq (F_leadAll N l1 u) u := by
  unfold F_leadAll
  exact kz_B_leadAll_0.tr kzq_rf
theorem kz_B_loop_0 {N : Nat} {u : RSt}  : KZq (B_loop_0 N u) u := by
  unfold B_loop_0
  refine KZq_wr ?_
  refine KZq_wr ?_
  refine KZq_pu ?_
  exact KZq_some (fz_sI (by decide) (fz_sA (by decide) (fz_sA (by decide) kzq_rf)))
theorem kz_F_loop {N : Nat} {u : RSt}  : KZq (F_loop N u) u := by
  unfold F_loop
  exact kz_B_loop_0.tr kzq_rf
theorem kz_B_label_59 {N : Nat} {l1 : Int64} {l3 : Int64} {u : RSt}  : KZq (B_label_59 N l1 l3 u) u := by
  have : pp (B_label_59 N l1 l3 u) (fun _ w => kzq u w) := by
    unfold B_label_59
    refine pp_bn (pp_m em_f (fun r w hw => ?_))
    obtain ⟨h1, h2, h3⟩ := hw
    rw [h2]
    exact pp_if (fun _ => pp_some h1) (fun c => pp_if (fun c2 => pp_wr (pp_wr (pp_some (kz_at (kz_at h1 (h3 c c2)) (h3 c c2))))) (fun _ => pp_some h1))
  exact this
theorem kz_B_label_53 {N : Nat} {l1 : Int64} {l3 : Int64} {l5 : Int32} {s1 : Int32} {u : RSt}  : KZq (B_label_53 N l1 l3 l5 s1 u) u := by
  unfold B_label_53
  refine KZq_bn (kz_F_wrong.tr kzq_rf) (fun _ _ => ?_)
  exact kz_B_label_59.tr kzq_rf
theorem kz_B_label_0 {N : Nat} {u : RSt}  : KZq (B_label_0 N u) u := by
  unfold B_label_0
  refine KZq_bn (kz_F_constant.tr kzq_rf) (fun _ _ => ?_)
  refine KZq_bn (kz_F_has.tr kzq_rf) (fun _ _ => ?_)
  refine KZq_if ?_ ?_
  · skip
    exact kz_B_label_59.tr kzq_rf
  · skip
    refine KZq_rd (fun _ => ?_)
    refine KZq_bn (kz_F_constant.tr kzq_rf) (fun _ _ => ?_)
    refine KZq_if ?_ ?_
    · skip
      exact kz_B_label_53.tr kzq_rf
    · skip
      exact kz_B_label_53.tr kzq_rf
theorem kz_F_label {N : Nat} {u : RSt}  : KZq (F_label N u) u := by
  unfold F_label
  exact kz_B_label_0.tr kzq_rf
theorem kz_B_leaves_94 {N : Nat} {u : RSt}  : KZq (B_leaves_94 N u) u := by
  unfold B_leaves_94
  refine KZq_bn (kz_F_take.tr kzq_rf) (fun _ _ => ?_)
  exact KZq_some kzq_rf
theorem kz_B_leaves_63 {N : Nat} {l1 : Int32} {l3 : Int32} {s1 : Int32} {s2 : Int32} {u : RSt}  : KZq (B_leaves_63 N l1 l3 s1 s2 u) u := by
  unfold B_leaves_63
  refine KZq_bn (kz_F_emit.tr kzq_rf) (fun _ _ => ?_)
  refine KZq_if ?_ ?_
  · skip
    refine KZq_wr ?_
    exact kz_B_leaves_94.tr (fz_sA (by decide) kzq_rf)
  · skip
    refine KZq_wr ?_
    exact kz_B_leaves_94.tr (fz_sA (by decide) kzq_rf)
theorem kz_B_leaves_13 {N : Nat} {l1 : Int32} {l2 : Int32} {s1 : Int32} {u : RSt}  : KZq (B_leaves_13 N l1 l2 s1 u) u := by
  unfold B_leaves_13
  refine KZq_bn (kz_F_wrong.tr kzq_rf) (fun _ _ => ?_)
  refine KZq_if ?_ ?_
  · skip
    exact kz_B_leaves_94.tr kzq_rf
  · skip
    refine KZq_if ?_ ?_
    · skip
      refine KZq_if ?_ ?_
      · skip
        refine KZq_rd (fun _ => ?_)
        exact kz_B_leaves_63.tr kzq_rf
      · skip
        refine KZq_rd (fun _ => ?_)
        exact kz_B_leaves_63.tr kzq_rf
    · skip
      exact kz_B_leaves_94.tr kzq_rf
theorem kz_B_leaves_0 {N : Nat} {l1 : Int32} {l2 : Int32} {u : RSt}  : KZq (B_leaves_0 N l1 l2 u) u := by
  unfold B_leaves_0
  refine KZq_if ?_ ?_
  · skip
    exact kz_B_leaves_13.tr kzq_rf
  · skip
    exact kz_B_leaves_13.tr kzq_rf
theorem kz_F_leaves {N : Nat} {l1 : Int32} {l2 : Int32} {u : RSt}  : KZq (F_leaves N l1 l2 u) u := by
  unfold F_leaves
  exact kz_B_leaves_0.tr kzq_rf
theorem kz_B_expression_119 {N : Nat} {ro : Nat → Int32 → Int32 → RSt → Option (Int32 × RSt)} {u : RSt} (h_ro : ∀ q a b u, KZq (ro q a b u) u) : KZq (B_expression_119 N ro u) u := by
  unfold B_expression_119
  exact KZq_some kzq_rf
theorem kz_B_expression_0 {N : Nat} {ro : Nat → Int32 → Int32 → RSt → Option (Int32 × RSt)} {u : RSt} (h_ro : ∀ q a b u, KZq (ro q a b u) u) : KZq (B_expression_0 N ro u) u := by
  unfold B_expression_0
  refine KZq_bn ((h_ro _ _ _ _).tr kzq_rf) (fun _ _ => ?_)
  refine KZq_bn (kz_F_is.tr kzq_rf) (fun _ _ => ?_)
  refine KZq_if ?_ ?_
  · skip
    exact KZq_some kzq_rf
  · skip
    refine KZq_bn (kz_F_opens.tr kzq_rf) (fun _ _ => ?_)
    refine KZq_rd (fun _ => ?_)
    refine KZq_bn (kz_F_cost.tr kzq_rf) (fun _ _ => ?_)
    refine KZq_pu ?_
    refine KZq_bn (kz_F_emit.tr (fz_sI (by decide) kzq_rf)) (fun _ _ => ?_)
    refine KZq_bn ((h_ro _ _ _ _).tr kzq_rf) (fun _ _ => ?_)
    refine KZq_bn (kz_F_emit.tr kzq_rf) (fun _ _ => ?_)
    refine KZq_bn (kz_F_lead.tr kzq_rf) (fun _ _ => ?_)
    refine KZq_bn (kz_F_take.tr kzq_rf) (fun _ _ => ?_)
    refine KZq_bn ((h_ro _ _ _ _).tr kzq_rf) (fun _ _ => ?_)
    refine KZq_bn (kz_F_lead.tr kzq_rf) (fun _ _ => ?_)
    refine KZq_pu ?_
    refine KZq_pu ?_
    refine KZq_if ?_ ?_
    · skip
      exact (kz_B_expression_119 h_ro).tr (fz_sI (by decide) (fz_sI (by decide) kzq_rf))
    · skip
      refine KZq_if ?_ ?_
      · skip
        exact (kz_B_expression_119 h_ro).tr (fz_sI (by decide) (fz_sI (by decide) kzq_rf))
      · skip
        exact KZq_some (fz_sI (by decide) (fz_sI (by decide) kzq_rf))
theorem kz_F_expression {N : Nat} {ro : Nat → Int32 → Int32 → RSt → Option (Int32 × RSt)} {u : RSt} (h_ro : ∀ q a b u, KZq (ro q a b u) u) : KZq (F_expression N ro u) u := by
  unfold F_expression
  exact (kz_B_expression_0 h_ro).tr kzq_rf
theorem kz_B_two_159 {N : Nat} {ro : Nat → Int32 → Int32 → RSt → Option (Int32 × RSt)} {R_10 : Int32 × Int32 × Int32 × RSt → Option (Int32 × RSt)} {l1 : Int32} {l2 : Int32} {u : RSt} (h_ro : ∀ q a b u, KZq (ro q a b u) u) (h_R_10 : ∀ a, KZq (R_10 a) a.2.2.2) : KZq (B_two_159 N ro R_10 l1 l2 u) u := by
  unfold B_two_159
  refine KZq_pu ?_
  refine KZq_bn (kz_F_strength.tr (fz_sI (by decide) kzq_rf)) (fun _ _ => ?_)
  exact (h_R_10 _).tr kzq_rf
theorem kz_B_two_124 {N : Nat} {ro : Nat → Int32 → Int32 → RSt → Option (Int32 × RSt)} {R_10 : Int32 × Int32 × Int32 × RSt → Option (Int32 × RSt)} {l1 : Int32} {l8 : Int32} {s1 : Int64} {u : RSt} (h_ro : ∀ q a b u, KZq (ro q a b u) u) (h_R_10 : ∀ a, KZq (R_10 a) a.2.2.2) : KZq (B_two_124 N ro R_10 l1 l8 s1 u) u := by
  unfold B_two_124
  refine KZq_bn (kz_F_push.tr kzq_rf) (fun _ _ => ?_)
  refine KZq_bn (kz_F_lead.tr kzq_rf) (fun _ _ => ?_)
  exact (kz_B_two_159 h_ro h_R_10).tr kzq_rf
theorem kz_B_two_71 {N : Nat} {ro : Nat → Int32 → Int32 → RSt → Option (Int32 × RSt)} {R_10 : Int32 × Int32 × Int32 × RSt → Option (Int32 × RSt)} {l1 : Int32} {l3 : Int32} {s1 : Int32} {u : RSt} (h_ro : ∀ q a b u, KZq (ro q a b u) u) (h_R_10 : ∀ a, KZq (R_10 a) a.2.2.2) : KZq (B_two_71 N ro R_10 l1 l3 s1 u) u := by
  unfold B_two_71
  refine KZq_bn (kz_F_emit.tr kzq_rf) (fun _ _ => ?_)
  refine KZq_bn ((h_ro _ _ _ _).tr kzq_rf) (fun _ _ => ?_)
  refine KZq_bn (kz_F_emit.tr kzq_rf) (fun _ _ => ?_)
  refine KZq_bn (kz_F_emit.tr kzq_rf) (fun _ _ => ?_)
  refine KZq_bn (kz_F_lead.tr kzq_rf) (fun _ _ => ?_)
  refine KZq_if ?_ ?_
  · skip
    exact (kz_B_two_124 h_ro h_R_10).tr kzq_rf
  · skip
    exact (kz_B_two_124 h_ro h_R_10).tr kzq_rf
theorem kz_B_two_10 {N : Nat} {ro : Nat → Int32 → Int32 → RSt → Option (Int32 × RSt)} {R_10 : Int32 × Int32 × Int32 × RSt → Option (Int32 × RSt)} {l1 : Int32} {l2 : Int32} {l3 : Int32} {u : RSt} (h_ro : ∀ q a b u, KZq (ro q a b u) u) (h_R_10 : ∀ a, KZq (R_10 a) a.2.2.2) : KZq (B_two_10 N ro R_10 l1 l2 l3 u) u := by
  unfold B_two_10
  refine KZq_if ?_ ?_
  · skip
    exact KZq_some kzq_rf
  · skip
    refine KZq_rd (fun _ => ?_)
    refine KZq_rd (fun _ => ?_)
    refine KZq_pu ?_
    refine KZq_bn (kz_F_cost.tr (fz_sI (by decide) kzq_rf)) (fun _ _ => ?_)
    refine KZq_if ?_ ?_
    · skip
      refine KZq_bn ((h_ro _ _ _ _).tr kzq_rf) (fun _ _ => ?_)
      refine KZq_bn (kz_F_joined.tr kzq_rf) (fun _ _ => ?_)
      exact (kz_B_two_159 h_ro h_R_10).tr kzq_rf
    · skip
      refine KZq_if ?_ ?_
      · skip
        exact (kz_B_two_71 h_ro h_R_10).tr kzq_rf
      · skip
        exact (kz_B_two_71 h_ro h_R_10).tr kzq_rf
theorem kz_LP_two_10 {N : Nat} {ro : Nat → Int32 → Int32 → RSt → Option (Int32 × RSt)} (h_ro : ∀ q a b u, KZq (ro q a b u) u) (n : Nat) : ∀ a : Int32 × Int32 × Int32 × RSt, KZq (LP_two_10 N ro n a) a.2.2.2 := by
  induction n with
  | zero => exact fun a r z e => by have e : (none : Option _) = some (r, z) := e; cases e
  | succ n ih =>
    intro a
    show KZq (B_two_10 N ro (LP_two_10 N ro n) a.1 a.2.1 a.2.2.1 a.2.2.2) a.2.2.2
    exact kz_B_two_10 h_ro ih
theorem kz_B_two_0 {N : Nat} {ro : Nat → Int32 → Int32 → RSt → Option (Int32 × RSt)} {l1 : Int32} {u : RSt} (h_ro : ∀ q a b u, KZq (ro q a b u) u) : KZq (B_two_0 N ro l1 u) u := by
  unfold B_two_0
  refine KZq_bn ((h_ro _ _ _ _).tr kzq_rf) (fun _ _ => ?_)
  refine KZq_bn (kz_F_strength.tr kzq_rf) (fun _ _ => ?_)
  exact (kz_LP_two_10 h_ro _ _).tr kzq_rf
theorem kz_F_two {N : Nat} {ro : Nat → Int32 → Int32 → RSt → Option (Int32 × RSt)} {l1 : Int32} {u : RSt} (h_ro : ∀ q a b u, KZq (ro q a b u) u) : KZq (F_two N ro l1 u) u := by
  unfold F_two
  exact (kz_B_two_0 h_ro).tr kzq_rf
theorem kz_B_operand_40 {N : Nat} {ro : Nat → Int32 → Int32 → RSt → Option (Int32 × RSt)} {l1 : Int32} {u : RSt} (h_ro : ∀ q a b u, KZq (ro q a b u) u) : KZq (B_operand_40 N ro l1 u) u := by
  unfold B_operand_40
  refine KZq_bn ((h_ro _ _ _ _).tr kzq_rf) (fun _ _ => ?_)
  exact KZq_some kzq_rf
theorem kz_B_operand_141 {N : Nat} {ro : Nat → Int32 → Int32 → RSt → Option (Int32 × RSt)} {s1 : Int32} {u : RSt} (h_ro : ∀ q a b u, KZq (ro q a b u) u) : KZq (B_operand_141 N ro s1 u) u := by
  unfold B_operand_141
  refine KZq_rd (fun _ => ?_)
  refine KZq_bn (kz_F_wrong.tr kzq_rf) (fun _ _ => ?_)
  refine KZq_rd (fun _ => ?_)
  refine KZq_bn (kz_F_cost.tr kzq_rf) (fun _ _ => ?_)
  refine KZq_rd (fun _ => ?_)
  refine KZq_bn (kz_F_push.tr kzq_rf) (fun _ _ => ?_)
  refine KZq_pu ?_
  refine KZq_rd (fun _ => ?_)
  refine KZq_pu ?_
  refine KZq_pu ?_
  refine KZq_rd (fun _ => ?_)
  refine KZq_if ?_ ?_
  · skip
    exact KZq_some (fz_sI (by decide) (fz_sL (fz_sI (by decide) kzq_rf)))
  · skip
    exact KZq_some (fz_sI (by decide) (fz_sL (fz_sI (by decide) kzq_rf)))
theorem kz_B_operand_130 {N : Nat} {ro : Nat → Int32 → Int32 → RSt → Option (Int32 × RSt)} {l1 : Int32} {u : RSt} (h_ro : ∀ q a b u, KZq (ro q a b u) u) : KZq (B_operand_130 N ro l1 u) u := by
  unfold B_operand_130
  refine KZq_if ?_ ?_
  · skip
    exact (kz_B_operand_141 h_ro).tr kzq_rf
  · skip
    exact (kz_B_operand_141 h_ro).tr kzq_rf
theorem kz_B_operand_366 {N : Nat} {ro : Nat → Int32 → Int32 → RSt → Option (Int32 × RSt)} {u : RSt} (h_ro : ∀ q a b u, KZq (ro q a b u) u) : KZq (B_operand_366 N ro u) u := by
  unfold B_operand_366
  refine KZq_pu ?_
  refine KZq_if ?_ ?_
  · skip
    exact KZq_some (fz_sI (by decide) kzq_rf)
  · skip
    exact KZq_some (fz_sI (by decide) kzq_rf)
theorem kz_B_operand_329 {N : Nat} {ro : Nat → Int32 → Int32 → RSt → Option (Int32 × RSt)} {u : RSt} (h_ro : ∀ q a b u, KZq (ro q a b u) u) : KZq (B_operand_329 N ro u) u := by
  unfold B_operand_329
  refine KZq_bn ((h_ro _ _ _ _).tr kzq_rf) (fun _ _ => ?_)
  refine KZq_bn (kz_F_emit.tr kzq_rf) (fun _ _ => ?_)
  refine KZq_if ?_ ?_
  · skip
    exact (kz_B_operand_366 h_ro).tr kzq_rf
  · skip
    refine KZq_bn (kz_F_emit.tr kzq_rf) (fun _ _ => ?_)
    exact (kz_B_operand_366 h_ro).tr kzq_rf
theorem kz_B_operand_71 {N : Nat} {ro : Nat → Int32 → Int32 → RSt → Option (Int32 × RSt)} {l1 : Int32} {u : RSt} (h_ro : ∀ q a b u, KZq (ro q a b u) u) : KZq (B_operand_71 N ro l1 u) u := by
  unfold B_operand_71
  refine KZq_if ?_ ?_
  · skip
    refine KZq_bn (kz_F_begins.tr kzq_rf) (fun _ _ => ?_)
    refine KZq_bn ((h_ro _ _ _ _).tr kzq_rf) (fun _ _ => ?_)
    refine KZq_bn (kz_F_ends.tr kzq_rf) (fun _ _ => ?_)
    refine KZq_if ?_ ?_
    · skip
      refine KZq_pu ?_
      exact KZq_some (fz_sI (by decide) kzq_rf)
    · skip
      refine KZq_pu ?_
      exact KZq_some (fz_sI (by decide) kzq_rf)
  · skip
    refine KZq_if ?_ ?_
    · skip
      exact (kz_B_operand_130 h_ro).tr kzq_rf
    · skip
      refine KZq_if ?_ ?_
      · skip
        exact (kz_B_operand_130 h_ro).tr kzq_rf
      · skip
        refine KZq_if ?_ ?_
        · skip
          exact (kz_B_operand_130 h_ro).tr kzq_rf
        · skip
          refine KZq_pu ?_
          refine KZq_if ?_ ?_
          · skip
            refine KZq_rd (fun _ => ?_)
            refine KZq_bn (kz_F_cost.tr (fz_sI (by decide) kzq_rf)) (fun _ _ => ?_)
            refine KZq_bn (kz_F_emit.tr kzq_rf) (fun _ _ => ?_)
            refine KZq_pu ?_
            exact KZq_some (fz_sI (by decide) kzq_rf)
          · skip
            refine KZq_if ?_ ?_
            · skip
              refine KZq_bn (kz_F_isNext.tr (fz_sI (by decide) kzq_rf)) (fun _ _ => ?_)
              refine KZq_if ?_ ?_
              · skip
                refine KZq_bn (kz_F_isNext.tr kzq_rf) (fun _ _ => ?_)
                refine KZq_if ?_ ?_
                · skip
                  exact (kz_B_operand_329 h_ro).tr kzq_rf
                · skip
                  refine KZq_rd (fun _ => ?_)
                  refine KZq_if ?_ ?_
                  · skip
                    refine KZq_bn ((h_ro _ _ _ _).tr kzq_rf) (fun _ _ => ?_)
                    exact KZq_some kzq_rf
                  · skip
                    exact (kz_B_operand_329 h_ro).tr kzq_rf
              · skip
                refine KZq_bn ((h_ro _ _ _ _).tr kzq_rf) (fun _ _ => ?_)
                exact KZq_some kzq_rf
            · skip
              refine KZq_bn (kz_F_stuck.tr (fz_sI (by decide) kzq_rf)) (fun _ _ => ?_)
              exact KZq_some kzq_rf
theorem kz_B_operand_0 {N : Nat} {ro : Nat → Int32 → Int32 → RSt → Option (Int32 × RSt)} {u : RSt} (h_ro : ∀ q a b u, KZq (ro q a b u) u) : KZq (B_operand_0 N ro u) u := by
  unfold B_operand_0
  refine KZq_if ?_ ?_
  · skip
    refine KZq_rd (fun _ => ?_)
    refine KZq_if ?_ ?_
    · skip
      exact (kz_B_operand_40 h_ro).tr kzq_rf
    · skip
      refine KZq_if ?_ ?_
      · skip
        exact (kz_B_operand_40 h_ro).tr kzq_rf
      · skip
        refine KZq_if ?_ ?_
        · skip
          exact (kz_B_operand_40 h_ro).tr kzq_rf
        · skip
          refine KZq_if ?_ ?_
          · skip
            refine KZq_bn (kz_F_isKind.tr kzq_rf) (fun _ _ => ?_)
            refine KZq_if ?_ ?_
            · skip
              exact (kz_B_operand_71 h_ro).tr kzq_rf
            · skip
              refine KZq_bn ((h_ro _ _ _ _).tr kzq_rf) (fun _ _ => ?_)
              exact KZq_some kzq_rf
          · skip
            exact (kz_B_operand_71 h_ro).tr kzq_rf
  · skip
    exact KZq_some kzq_rf
theorem kz_F_operand {N : Nat} {ro : Nat → Int32 → Int32 → RSt → Option (Int32 × RSt)} {u : RSt} (h_ro : ∀ q a b u, KZq (ro q a b u) u) : KZq (F_operand N ro u) u := by
  unfold F_operand
  exact (kz_B_operand_0 h_ro).tr kzq_rf
theorem kz_B_signed_143 {N : Nat} {ro : Nat → Int32 → Int32 → RSt → Option (Int32 × RSt)} {l1 : Int32} {l4 : Int32} {s1 : Int32} {u : RSt} (h_ro : ∀ q a b u, KZq (ro q a b u) u) : KZq (B_signed_143 N ro l1 l4 s1 u) u := by
  unfold B_signed_143
  refine KZq_pu ?_
  refine KZq_pu ?_
  refine KZq_if ?_ ?_
  · skip
    exact KZq_some (fz_sL (fz_sI (by decide) kzq_rf))
  · skip
    refine KZq_if ?_ ?_
    · skip
      exact KZq_some (fz_sL (fz_sI (by decide) kzq_rf))
    · skip
      exact KZq_some (fz_sL (fz_sI (by decide) kzq_rf))
theorem kz_B_signed_142 {N : Nat} {ro : Nat → Int32 → Int32 → RSt → Option (Int32 × RSt)} {l1 : Int32} {l4 : Int32} {u : RSt} (h_ro : ∀ q a b u, KZq (ro q a b u) u) : KZq (B_signed_142 N ro l1 l4 u) u := by
  unfold B_signed_142
  exact (kz_B_signed_143 h_ro).tr kzq_rf
theorem kz_B_signed_102 {N : Nat} {ro : Nat → Int32 → Int32 → RSt → Option (Int32 × RSt)} {l1 : Int32} {l2 : Int32} {l4 : Int32} {s1 : Int32} {s2 : Int32} {u : RSt} (h_ro : ∀ q a b u, KZq (ro q a b u) u) : KZq (B_signed_102 N ro l1 l2 l4 s1 s2 u) u := by
  unfold B_signed_102
  refine KZq_bn (kz_F_emit.tr kzq_rf) (fun _ _ => ?_)
  refine KZq_pu ?_
  refine KZq_if ?_ ?_
  · skip
    refine KZq_if ?_ ?_
    · skip
      exact (kz_B_signed_142 h_ro).tr (fz_sI (by decide) kzq_rf)
    · skip
      refine KZq_if ?_ ?_
      · skip
        exact (kz_B_signed_143 h_ro).tr (fz_sI (by decide) kzq_rf)
      · skip
        exact (kz_B_signed_142 h_ro).tr (fz_sI (by decide) kzq_rf)
  · skip
    exact (kz_B_signed_142 h_ro).tr (fz_sI (by decide) kzq_rf)
theorem kz_B_signed_92 {N : Nat} {ro : Nat → Int32 → Int32 → RSt → Option (Int32 × RSt)} {l1 : Int32} {l2 : Int32} {l4 : Int32} {s1 : Int32} {u : RSt} (h_ro : ∀ q a b u, KZq (ro q a b u) u) : KZq (B_signed_92 N ro l1 l2 l4 s1 u) u := by
  unfold B_signed_92
  refine KZq_if ?_ ?_
  · skip
    exact (kz_B_signed_102 h_ro).tr kzq_rf
  · skip
    exact (kz_B_signed_102 h_ro).tr kzq_rf
theorem kz_B_signed_63 {N : Nat} {ro : Nat → Int32 → Int32 → RSt → Option (Int32 × RSt)} {l1 : Int32} {l2 : Int32} {s0 : Int32} {u : RSt} (h_ro : ∀ q a b u, KZq (ro q a b u) u) : KZq (B_signed_63 N ro l1 l2 s0 u) u := by
  unfold B_signed_63
  refine KZq_if ?_ ?_
  · skip
    exact (kz_B_signed_92 h_ro).tr kzq_rf
  · skip
    refine KZq_if ?_ ?_
    · skip
      exact (kz_B_signed_92 h_ro).tr kzq_rf
    · skip
      exact (kz_B_signed_92 h_ro).tr kzq_rf
theorem kz_B_signed_47 {N : Nat} {ro : Nat → Int32 → Int32 → RSt → Option (Int32 × RSt)} {l1 : Int32} {s0 : Int32} {u : RSt} (h_ro : ∀ q a b u, KZq (ro q a b u) u) : KZq (B_signed_47 N ro l1 s0 u) u := by
  unfold B_signed_47
  refine KZq_bn ((h_ro _ _ _ _).tr kzq_rf) (fun _ _ => ?_)
  refine KZq_if ?_ ?_
  · skip
    exact (kz_B_signed_63 h_ro).tr kzq_rf
  · skip
    exact (kz_B_signed_63 h_ro).tr kzq_rf
theorem kz_B_signed_42 {N : Nat} {ro : Nat → Int32 → Int32 → RSt → Option (Int32 × RSt)} {l1 : Int32} {u : RSt} (h_ro : ∀ q a b u, KZq (ro q a b u) u) : KZq (B_signed_42 N ro l1 u) u := by
  unfold B_signed_42
  exact (kz_B_signed_47 h_ro).tr kzq_rf
theorem kz_B_signed_0 {N : Nat} {ro : Nat → Int32 → Int32 → RSt → Option (Int32 × RSt)} {l1 : Int32} {u : RSt} (h_ro : ∀ q a b u, KZq (ro q a b u) u) : KZq (B_signed_0 N ro l1 u) u := by
  unfold B_signed_0
  refine KZq_bn (kz_F_opens.tr kzq_rf) (fun _ _ => ?_)
  refine KZq_rd (fun _ => ?_)
  refine KZq_bn (kz_F_cost.tr kzq_rf) (fun _ _ => ?_)
  refine KZq_pu ?_
  refine KZq_bn (kz_F_isNumber.tr (fz_sI (by decide) kzq_rf)) (fun _ _ => ?_)
  refine KZq_if ?_ ?_
  · skip
    refine KZq_bn (kz_F_is.tr kzq_rf) (fun _ _ => ?_)
    refine KZq_if ?_ ?_
    · skip
      exact (kz_B_signed_47 h_ro).tr kzq_rf
    · skip
      exact (kz_B_signed_42 h_ro).tr kzq_rf
  · skip
    exact (kz_B_signed_42 h_ro).tr kzq_rf
theorem kz_F_signed {N : Nat} {ro : Nat → Int32 → Int32 → RSt → Option (Int32 × RSt)} {l1 : Int32} {u : RSt} (h_ro : ∀ q a b u, KZq (ro q a b u) u) : KZq (F_signed N ro l1 u) u := by
  unfold F_signed
  exact (kz_B_signed_0 h_ro).tr kzq_rf
theorem kz_B_cast_0 {N : Nat} {ro : Nat → Int32 → Int32 → RSt → Option (Int32 × RSt)} {u : RSt} (h_ro : ∀ q a b u, KZq (ro q a b u) u) : KZq (B_cast_0 N ro u) u := by
  unfold B_cast_0
  refine KZq_bn (kz_F_opens.tr kzq_rf) (fun _ _ => ?_)
  refine KZq_rd (fun _ => ?_)
  refine KZq_bn (kz_F_cost.tr kzq_rf) (fun _ _ => ?_)
  refine KZq_pu ?_
  refine KZq_bn (kz_F_kind.tr (fz_sI (by decide) kzq_rf)) (fun _ _ => ?_)
  refine KZq_bn (kz_F_take.tr kzq_rf) (fun _ _ => ?_)
  refine KZq_bn ((h_ro _ _ _ _).tr kzq_rf) (fun _ _ => ?_)
  refine KZq_bn (kz_F_emit.tr kzq_rf) (fun _ _ => ?_)
  refine KZq_pu ?_
  refine KZq_pu ?_
  exact KZq_some (fz_sI (by decide) (fz_sI (by decide) kzq_rf))
theorem kz_F_cast {N : Nat} {ro : Nat → Int32 → Int32 → RSt → Option (Int32 × RSt)} {u : RSt} (h_ro : ∀ q a b u, KZq (ro q a b u) u) : KZq (F_cast N ro u) u := by
  unfold F_cast
  exact (kz_B_cast_0 h_ro).tr kzq_rf
theorem kz_B_call_222 {N : Nat} {ro : Nat → Int32 → Int32 → RSt → Option (Int32 × RSt)} {R_123 : Int32 × Int32 × Int32 × Int32 × Int32 × Int32 × Int32 × Int32 × RSt → Option (Int32 × RSt)} {l1 : Int32} {l2 : Int32} {l3 : Int32} {l4 : Int32} {l5 : Int32} {l6 : Int32} {l7 : Int32} {u : RSt} (h_ro : ∀ q a b u, KZq (ro q a b u) u) (h_R_123 : ∀ a, KZq (R_123 a) a.2.2.2.2.2.2.2.2) : KZq (B_call_222 N ro R_123 l1 l2 l3 l4 l5 l6 l7 u) u := by
  unfold B_call_222
  refine KZq_bn (kz_F_has.tr kzq_rf) (fun _ _ => ?_)
  exact (h_R_123 _).tr kzq_rf
theorem kz_B_call_206 {N : Nat} {ro : Nat → Int32 → Int32 → RSt → Option (Int32 × RSt)} {R_123 : Int32 × Int32 × Int32 × Int32 × Int32 × Int32 × Int32 × Int32 × RSt → Option (Int32 × RSt)} {l1 : Int32} {l2 : Int32} {l3 : Int32} {l4 : Int32} {l5 : Int32} {l6 : Int32} {l7 : Int32} {l10 : Int32} {u : RSt} (h_ro : ∀ q a b u, KZq (ro q a b u) u) (h_R_123 : ∀ a, KZq (R_123 a) a.2.2.2.2.2.2.2.2) : KZq (B_call_206 N ro R_123 l1 l2 l3 l4 l5 l6 l7 l10 u) u := by
  unfold B_call_206
  refine KZq_if ?_ ?_
  · skip
    exact (kz_B_call_222 h_ro h_R_123).tr kzq_rf
  · skip
    exact (kz_B_call_222 h_ro h_R_123).tr kzq_rf
theorem kz_B_call_288 {N : Nat} {ro : Nat → Int32 → Int32 → RSt → Option (Int32 × RSt)} {l1 : Int32} {l4 : Int32} {s1 : Int32} {u : RSt} (h_ro : ∀ q a b u, KZq (ro q a b u) u) : KZq (B_call_288 N ro l1 l4 s1 u) u := by
  unfold B_call_288
  refine KZq_rd (fun _ => ?_)
  refine KZq_bn (kz_F_wrong.tr kzq_rf) (fun _ _ => ?_)
  refine KZq_rd (fun _ => ?_)
  refine KZq_bn (kz_F_emit.tr kzq_rf) (fun _ _ => ?_)
  refine KZq_rd (fun _ => ?_)
  exact KZq_some kzq_rf
theorem kz_B_call_400 {N : Nat} {ro : Nat → Int32 → Int32 → RSt → Option (Int32 × RSt)} {l3 : Int32} {l9 : Int32} {s1 : Int32} {s2 : Int32} {s3 : Int32} {u : RSt} (h_ro : ∀ q a b u, KZq (ro q a b u) u) : KZq (B_call_400 N ro l3 l9 s1 s2 s3 u) u := by
  unfold B_call_400
  refine KZq_bn (kz_F_emit.tr kzq_rf) (fun _ _ => ?_)
  refine KZq_if ?_ ?_
  · skip
    exact KZq_some kzq_rf
  · skip
    refine KZq_if ?_ ?_
    · skip
      exact KZq_some kzq_rf
    · skip
      exact KZq_some kzq_rf
theorem kz_B_call_384 {N : Nat} {ro : Nat → Int32 → Int32 → RSt → Option (Int32 × RSt)} {l3 : Int32} {s0 : Int32} {u : RSt} (h_ro : ∀ q a b u, KZq (ro q a b u) u) : KZq (B_call_384 N ro l3 s0 u) u := by
  unfold B_call_384
  refine KZq_if ?_ ?_
  · skip
    exact (kz_B_call_400 h_ro).tr kzq_rf
  · skip
    exact (kz_B_call_400 h_ro).tr kzq_rf
theorem kz_B_call_379 {N : Nat} {ro : Nat → Int32 → Int32 → RSt → Option (Int32 × RSt)} {l3 : Int32} {u : RSt} (h_ro : ∀ q a b u, KZq (ro q a b u) u) : KZq (B_call_379 N ro l3 u) u := by
  unfold B_call_379
  exact (kz_B_call_384 h_ro).tr kzq_rf
theorem kz_B_call_383 {N : Nat} {ro : Nat → Int32 → Int32 → RSt → Option (Int32 × RSt)} {l3 : Int32} {u : RSt} (h_ro : ∀ q a b u, KZq (ro q a b u) u) : KZq (B_call_383 N ro l3 u) u := by
  unfold B_call_383
  exact (kz_B_call_384 h_ro).tr kzq_rf
theorem kz_B_call_373 {N : Nat} {ro : Nat → Int32 → Int32 → RSt → Option (Int32 × RSt)} {l3 : Int32} {l7 : Int32} {u : RSt} (h_ro : ∀ q a b u, KZq (ro q a b u) u) : KZq (B_call_373 N ro l3 l7 u) u := by
  unfold B_call_373
  refine KZq_if ?_ ?_
  · skip
    exact (kz_B_call_379 h_ro).tr kzq_rf
  · skip
    exact (kz_B_call_383 h_ro).tr kzq_rf
theorem kz_B_call_347 {N : Nat} {ro : Nat → Int32 → Int32 → RSt → Option (Int32 × RSt)} {l1 : Int32} {l3 : Int32} {l6 : Int32} {l7 : Int32} {s1 : Int32} {u : RSt} (h_ro : ∀ q a b u, KZq (ro q a b u) u) : KZq (B_call_347 N ro l1 l3 l6 l7 s1 u) u := by
  unfold B_call_347
  refine KZq_rd (fun _ => ?_)
  refine KZq_bn (kz_F_wrong.tr kzq_rf) (fun _ _ => ?_)
  refine KZq_if ?_ ?_
  · skip
    exact (kz_B_call_379 h_ro).tr kzq_rf
  · skip
    refine KZq_if ?_ ?_
    · skip
      exact (kz_B_call_373 h_ro).tr kzq_rf
    · skip
      refine KZq_if ?_ ?_
      · skip
        exact (kz_B_call_373 h_ro).tr kzq_rf
      · skip
        exact (kz_B_call_383 h_ro).tr kzq_rf
theorem kz_B_call_339 {N : Nat} {ro : Nat → Int32 → Int32 → RSt → Option (Int32 × RSt)} {l1 : Int32} {l3 : Int32} {l6 : Int32} {l7 : Int32} {s1 : Int32} {s2 : Int32} {u : RSt} (h_ro : ∀ q a b u, KZq (ro q a b u) u) : KZq (B_call_339 N ro l1 l3 l6 l7 s1 s2 u) u := by
  unfold B_call_339
  refine KZq_if ?_ ?_
  · skip
    exact (kz_B_call_347 h_ro).tr kzq_rf
  · skip
    exact (kz_B_call_347 h_ro).tr kzq_rf
theorem kz_B_call_334 {N : Nat} {ro : Nat → Int32 → Int32 → RSt → Option (Int32 × RSt)} {l1 : Int32} {l3 : Int32} {l6 : Int32} {l7 : Int32} {s1 : Int32} {u : RSt} (h_ro : ∀ q a b u, KZq (ro q a b u) u) : KZq (B_call_334 N ro l1 l3 l6 l7 s1 u) u := by
  unfold B_call_334
  exact (kz_B_call_339 h_ro).tr kzq_rf
theorem kz_B_call_123 {N : Nat} {ro : Nat → Int32 → Int32 → RSt → Option (Int32 × RSt)} {R_123 : Int32 × Int32 × Int32 × Int32 × Int32 × Int32 × Int32 × Int32 × RSt → Option (Int32 × RSt)} {l1 : Int32} {l2 : Int32} {l3 : Int32} {l4 : Int32} {l5 : Int32} {l6 : Int32} {l7 : Int32} {l8 : Int32} {u : RSt} (h_ro : ∀ q a b u, KZq (ro q a b u) u) (h_R_123 : ∀ a, KZq (R_123 a) a.2.2.2.2.2.2.2.2) : KZq (B_call_123 N ro R_123 l1 l2 l3 l4 l5 l6 l7 l8 u) u := by
  unfold B_call_123
  refine KZq_if ?_ ?_
  · skip
    refine KZq_bn (kz_F_ends.tr kzq_rf) (fun _ _ => ?_)
    refine KZq_pu ?_
    refine KZq_if ?_ ?_
    · skip
      exact KZq_some (fz_sI (by decide) kzq_rf)
    · skip
      refine KZq_if ?_ ?_
      · skip
        refine KZq_if ?_ ?_
        · skip
          refine KZq_if ?_ ?_
          · skip
            exact (kz_B_call_334 h_ro).tr (fz_sI (by decide) kzq_rf)
          · skip
            refine KZq_if ?_ ?_
            · skip
              exact (kz_B_call_339 h_ro).tr (fz_sI (by decide) kzq_rf)
            · skip
              exact (kz_B_call_334 h_ro).tr (fz_sI (by decide) kzq_rf)
        · skip
          refine KZq_rd (fun _ => ?_)
          refine KZq_if ?_ ?_
          · skip
            exact (kz_B_call_288 h_ro).tr (fz_sI (by decide) kzq_rf)
          · skip
            exact (kz_B_call_288 h_ro).tr (fz_sI (by decide) kzq_rf)
      · skip
        exact KZq_some (fz_sI (by decide) kzq_rf)
  · skip
    refine KZq_rd (fun _ => ?_)
    refine KZq_bn ((h_ro _ _ _ _).tr kzq_rf) (fun _ _ => ?_)
    refine KZq_if ?_ ?_
    · skip
      exact (kz_B_call_206 h_ro h_R_123).tr kzq_rf
    · skip
      refine KZq_if ?_ ?_
      · skip
        exact (kz_B_call_206 h_ro h_R_123).tr kzq_rf
      · skip
        refine KZq_rd (fun _ => ?_)
        refine KZq_if ?_ ?_
        · skip
          exact (kz_B_call_206 h_ro h_R_123).tr kzq_rf
        · skip
          refine KZq_rd (fun _ => ?_)
          refine KZq_rd (fun _ => ?_)
          refine KZq_bn (kz_F_isTooWide.tr kzq_rf) (fun _ _ => ?_)
          refine KZq_bn (kz_F_wrong.tr kzq_rf) (fun _ _ => ?_)
          exact (kz_B_call_206 h_ro h_R_123).tr kzq_rf
theorem kz_LP_call_123 {N : Nat} {ro : Nat → Int32 → Int32 → RSt → Option (Int32 × RSt)} (h_ro : ∀ q a b u, KZq (ro q a b u) u) (n : Nat) : ∀ a : Int32 × Int32 × Int32 × Int32 × Int32 × Int32 × Int32 × Int32 × RSt, KZq (LP_call_123 N ro n a) a.2.2.2.2.2.2.2.2 := by
  induction n with
  | zero => exact fun a r z e => by have e : (none : Option _) = some (r, z) := e; cases e
  | succ n ih =>
    intro a
    show KZq (B_call_123 N ro (LP_call_123 N ro n) a.1 a.2.1 a.2.2.1 a.2.2.2.1 a.2.2.2.2.1 a.2.2.2.2.2.1 a.2.2.2.2.2.2.1 a.2.2.2.2.2.2.2.1 a.2.2.2.2.2.2.2.2) a.2.2.2.2.2.2.2.2
    exact kz_B_call_123 h_ro ih
theorem kz_B_call_121 {N : Nat} {ro : Nat → Int32 → Int32 → RSt → Option (Int32 × RSt)} {l1 : Int32} {l2 : Int32} {l3 : Int32} {l4 : Int32} {l5 : Int32} {l6 : Int32} {l7 : Int32} {s0 : Int32} {u : RSt} (h_ro : ∀ q a b u, KZq (ro q a b u) u) : KZq (B_call_121 N ro l1 l2 l3 l4 l5 l6 l7 s0 u) u := by
  unfold B_call_121
  exact (kz_LP_call_123 h_ro _ _).tr kzq_rf
theorem kz_B_call_120 {N : Nat} {ro : Nat → Int32 → Int32 → RSt → Option (Int32 × RSt)} {l1 : Int32} {l2 : Int32} {l3 : Int32} {l4 : Int32} {l5 : Int32} {l6 : Int32} {l7 : Int32} {u : RSt} (h_ro : ∀ q a b u, KZq (ro q a b u) u) : KZq (B_call_120 N ro l1 l2 l3 l4 l5 l6 l7 u) u := by
  unfold B_call_120
  exact (kz_B_call_121 h_ro).tr kzq_rf
theorem kz_B_call_33 {N : Nat} {ro : Nat → Int32 → Int32 → RSt → Option (Int32 × RSt)} {l1 : Int32} {l2 : Int32} {l3 : Int32} {s1 : Int32} {u : RSt} (h_ro : ∀ q a b u, KZq (ro q a b u) u) : KZq (B_call_33 N ro l1 l2 l3 s1 u) u := by
  unfold B_call_33
  refine KZq_rd (fun _ => ?_)
  refine KZq_bn (kz_F_wrong.tr kzq_rf) (fun _ _ => ?_)
  refine KZq_rd (fun _ => ?_)
  refine KZq_bn (kz_F_cost.tr kzq_rf) (fun _ _ => ?_)
  refine KZq_pu ?_
  refine KZq_bn (kz_F_begins.tr (fz_sI (by decide) kzq_rf)) (fun _ _ => ?_)
  refine KZq_if ?_ ?_
  · skip
    refine KZq_bn (kz_F_is.tr kzq_rf) (fun _ _ => ?_)
    refine KZq_if ?_ ?_
    · skip
      exact (kz_B_call_121 h_ro).tr kzq_rf
    · skip
      exact (kz_B_call_120 h_ro).tr kzq_rf
  · skip
    exact (kz_B_call_120 h_ro).tr kzq_rf
theorem kz_B_call_32 {N : Nat} {ro : Nat → Int32 → Int32 → RSt → Option (Int32 × RSt)} {l1 : Int32} {l2 : Int32} {l3 : Int32} {u : RSt} (h_ro : ∀ q a b u, KZq (ro q a b u) u) : KZq (B_call_32 N ro l1 l2 l3 u) u := by
  unfold B_call_32
  exact (kz_B_call_33 h_ro).tr kzq_rf
theorem kz_B_call_0 {N : Nat} {ro : Nat → Int32 → Int32 → RSt → Option (Int32 × RSt)} {u : RSt} (h_ro : ∀ q a b u, KZq (ro q a b u) u) : KZq (B_call_0 N ro u) u := by
  unfold B_call_0
  refine KZq_bn (kz_F_own.tr kzq_rf) (fun _ _ => ?_)
  refine KZq_bn (kz_F_own.tr kzq_rf) (fun _ _ => ?_)
  refine KZq_if ?_ ?_
  · skip
    refine KZq_if ?_ ?_
    · skip
      exact (kz_B_call_33 h_ro).tr kzq_rf
    · skip
      exact (kz_B_call_32 h_ro).tr kzq_rf
  · skip
    exact (kz_B_call_32 h_ro).tr kzq_rf
theorem kz_F_call {N : Nat} {ro : Nat → Int32 → Int32 → RSt → Option (Int32 × RSt)} {u : RSt} (h_ro : ∀ q a b u, KZq (ro q a b u) u) : KZq (F_call N ro u) u := by
  unfold F_call
  exact (kz_B_call_0 h_ro).tr kzq_rf
theorem kz_B_inner_192 {N : Nat} {ro : Nat → Int32 → Int32 → RSt → Option (Int32 × RSt)} {R_102 : Int32 × Int32 × Int32 × Int32 × Int32 × RSt → Option (Int32 × RSt)} {l1 : Int32} {l2 : Int32} {l3 : Int32} {l4 : Int32} {l5 : Int32} {u : RSt} (h_ro : ∀ q a b u, KZq (ro q a b u) u) (h_R_102 : ∀ a, KZq (R_102 a) a.2.2.2.2.2) : KZq (B_inner_192 N ro R_102 l1 l2 l3 l4 l5 u) u := by
  unfold B_inner_192
  exact (h_R_102 _).tr kzq_rf
theorem kz_B_inner_387 {N : Nat} {ro : Nat → Int32 → Int32 → RSt → Option (Int32 × RSt)} {l3 : Int32} {l6 : Int32} {s1 : Int32} {s2 : Int32} {u : RSt} (h_ro : ∀ q a b u, KZq (ro q a b u) u) : KZq (B_inner_387 N ro l3 l6 s1 s2 u) u := by
  unfold B_inner_387
  refine KZq_bn (kz_F_emit.tr kzq_rf) (fun _ _ => ?_)
  refine KZq_pu ?_
  refine KZq_if ?_ ?_
  · skip
    exact KZq_some (fz_sI (by decide) kzq_rf)
  · skip
    refine KZq_rd (fun _ => ?_)
    exact KZq_some (fz_sI (by decide) kzq_rf)
theorem kz_B_inner_369 {N : Nat} {ro : Nat → Int32 → Int32 → RSt → Option (Int32 × RSt)} {l3 : Int32} {l6 : Int32} {u : RSt} (h_ro : ∀ q a b u, KZq (ro q a b u) u) : KZq (B_inner_369 N ro l3 l6 u) u := by
  unfold B_inner_369
  refine KZq_if ?_ ?_
  · skip
    exact (kz_B_inner_387 h_ro).tr kzq_rf
  · skip
    refine KZq_rd (fun _ => ?_)
    exact (kz_B_inner_387 h_ro).tr kzq_rf
theorem kz_B_inner_348 {N : Nat} {ro : Nat → Int32 → Int32 → RSt → Option (Int32 × RSt)} {l3 : Int32} {l5 : Int32} {l6 : Int32} {s1 : Int32} {s2 : Int32} {u : RSt} (h_ro : ∀ q a b u, KZq (ro q a b u) u) : KZq (B_inner_348 N ro l3 l5 l6 s1 s2 u) u := by
  unfold B_inner_348
  refine KZq_bn (kz_F_emit.tr kzq_rf) (fun _ _ => ?_)
  refine KZq_if ?_ ?_
  · skip
    exact (kz_B_inner_369 h_ro).tr kzq_rf
  · skip
    refine KZq_bn (kz_F_emit.tr kzq_rf) (fun _ _ => ?_)
    exact (kz_B_inner_369 h_ro).tr kzq_rf
theorem kz_B_inner_315 {N : Nat} {ro : Nat → Int32 → Int32 → RSt → Option (Int32 × RSt)} {l1 : Int32} {l3 : Int32} {l5 : Int32} {l6 : Int32} {u : RSt} (h_ro : ∀ q a b u, KZq (ro q a b u) u) : KZq (B_inner_315 N ro l1 l3 l5 l6 u) u := by
  unfold B_inner_315
  refine KZq_if ?_ ?_
  · skip
    exact (kz_B_inner_348 h_ro).tr kzq_rf
  · skip
    refine KZq_rd (fun _ => ?_)
    refine KZq_rd (fun _ => ?_)
    exact (kz_B_inner_348 h_ro).tr kzq_rf
theorem kz_B_inner_311 {N : Nat} {ro : Nat → Int32 → Int32 → RSt → Option (Int32 × RSt)} {l1 : Int32} {l2 : Int32} {l3 : Int32} {l5 : Int32} {l6 : Int32} {s1 : Int32} {u : RSt} (h_ro : ∀ q a b u, KZq (ro q a b u) u) : KZq (B_inner_311 N ro l1 l2 l3 l5 l6 s1 u) u := by
  unfold B_inner_311
  refine KZq_bn ((h_ro _ _ _ _).tr kzq_rf) (fun _ _ => ?_)
  exact (kz_B_inner_315 h_ro).tr kzq_rf
theorem kz_B_inner_275 {N : Nat} {ro : Nat → Int32 → Int32 → RSt → Option (Int32 × RSt)} {l1 : Int32} {l2 : Int32} {l3 : Int32} {l5 : Int32} {l6 : Int32} {s1 : Int32} {u : RSt} (h_ro : ∀ q a b u, KZq (ro q a b u) u) : KZq (B_inner_275 N ro l1 l2 l3 l5 l6 s1 u) u := by
  unfold B_inner_275
  refine KZq_bn (kz_F_wrong.tr kzq_rf) (fun _ _ => ?_)
  refine KZq_pu ?_
  refine KZq_if ?_ ?_
  · skip
    exact (kz_B_inner_315 h_ro).tr (fz_sI (by decide) kzq_rf)
  · skip
    refine KZq_if ?_ ?_
    · skip
      exact (kz_B_inner_311 h_ro).tr (fz_sI (by decide) kzq_rf)
    · skip
      refine KZq_rd (fun _ => ?_)
      exact (kz_B_inner_311 h_ro).tr (fz_sI (by decide) kzq_rf)
theorem kz_B_inner_274 {N : Nat} {ro : Nat → Int32 → Int32 → RSt → Option (Int32 × RSt)} {l1 : Int32} {l2 : Int32} {l3 : Int32} {l5 : Int32} {l6 : Int32} {u : RSt} (h_ro : ∀ q a b u, KZq (ro q a b u) u) : KZq (B_inner_274 N ro l1 l2 l3 l5 l6 u) u := by
  unfold B_inner_274
  exact (kz_B_inner_275 h_ro).tr kzq_rf
theorem kz_B_inner_264 {N : Nat} {ro : Nat → Int32 → Int32 → RSt → Option (Int32 × RSt)} {l1 : Int32} {l2 : Int32} {l3 : Int32} {l5 : Int32} {l6 : Int32} {s2 : Int32} {u : RSt} (h_ro : ∀ q a b u, KZq (ro q a b u) u) : KZq (B_inner_264 N ro l1 l2 l3 l5 l6 s2 u) u := by
  unfold B_inner_264
  refine KZq_rd (fun _ => ?_)
  refine KZq_if ?_ ?_
  · skip
    exact (kz_B_inner_274 h_ro).tr kzq_rf
  · skip
    exact (kz_B_inner_275 h_ro).tr kzq_rf
theorem kz_B_inner_242 {N : Nat} {ro : Nat → Int32 → Int32 → RSt → Option (Int32 × RSt)} {l1 : Int32} {l2 : Int32} {l3 : Int32} {l5 : Int32} {s0 : Int32} {u : RSt} (h_ro : ∀ q a b u, KZq (ro q a b u) u) : KZq (B_inner_242 N ro l1 l2 l3 l5 s0 u) u := by
  unfold B_inner_242
  refine KZq_if ?_ ?_
  · skip
    exact (kz_B_inner_274 h_ro).tr kzq_rf
  · skip
    refine KZq_if ?_ ?_
    · skip
      exact (kz_B_inner_264 h_ro).tr kzq_rf
    · skip
      exact (kz_B_inner_264 h_ro).tr kzq_rf
theorem kz_B_inner_241 {N : Nat} {ro : Nat → Int32 → Int32 → RSt → Option (Int32 × RSt)} {l1 : Int32} {l2 : Int32} {l3 : Int32} {l5 : Int32} {u : RSt} (h_ro : ∀ q a b u, KZq (ro q a b u) u) : KZq (B_inner_241 N ro l1 l2 l3 l5 u) u := by
  unfold B_inner_241
  exact (kz_B_inner_242 h_ro).tr kzq_rf
theorem kz_B_inner_209 {N : Nat} {ro : Nat → Int32 → Int32 → RSt → Option (Int32 × RSt)} {l1 : Int32} {l2 : Int32} {l3 : Int32} {s1 : Int32} {u : RSt} (h_ro : ∀ q a b u, KZq (ro q a b u) u) : KZq (B_inner_209 N ro l1 l2 l3 s1 u) u := by
  unfold B_inner_209
  refine KZq_bn (kz_F_wrong.tr kzq_rf) (fun _ _ => ?_)
  refine KZq_bn (kz_F_isNext.tr kzq_rf) (fun _ _ => ?_)
  refine KZq_if ?_ ?_
  · skip
    exact (kz_B_inner_241 h_ro).tr kzq_rf
  · skip
    refine KZq_if ?_ ?_
    · skip
      exact (kz_B_inner_242 h_ro).tr kzq_rf
    · skip
      exact (kz_B_inner_241 h_ro).tr kzq_rf
theorem kz_B_inner_198 {N : Nat} {ro : Nat → Int32 → Int32 → RSt → Option (Int32 × RSt)} {l1 : Int32} {l2 : Int32} {l3 : Int32} {u : RSt} (h_ro : ∀ q a b u, KZq (ro q a b u) u) : KZq (B_inner_198 N ro l1 l2 l3 u) u := by
  unfold B_inner_198
  refine KZq_if ?_ ?_
  · skip
    exact (kz_B_inner_209 h_ro).tr kzq_rf
  · skip
    exact (kz_B_inner_209 h_ro).tr kzq_rf
theorem kz_B_inner_102 {N : Nat} {ro : Nat → Int32 → Int32 → RSt → Option (Int32 × RSt)} {R_102 : Int32 × Int32 × Int32 × Int32 × Int32 × RSt → Option (Int32 × RSt)} {l1 : Int32} {l2 : Int32} {l3 : Int32} {l4 : Int32} {l5 : Int32} {u : RSt} (h_ro : ∀ q a b u, KZq (ro q a b u) u) (h_R_102 : ∀ a, KZq (R_102 a) a.2.2.2.2.2) : KZq (B_inner_102 N ro R_102 l1 l2 l3 l4 l5 u) u := by
  unfold B_inner_102
  refine KZq_if ?_ ?_
  · skip
    exact (kz_B_inner_198 h_ro).tr kzq_rf
  · skip
    refine KZq_if ?_ ?_
    · skip
      refine KZq_rd (fun _ => ?_)
      refine KZq_if ?_ ?_
      · skip
        exact (kz_B_inner_198 h_ro).tr kzq_rf
      · skip
        refine KZq_rd (fun _ => ?_)
        refine KZq_rd (fun _ => ?_)
        refine KZq_rd (fun _ => ?_)
        refine KZq_if ?_ ?_
        · skip
          refine KZq_rd (fun _ => ?_)
          refine KZq_rd (fun _ => ?_)
          refine KZq_if ?_ ?_
          · skip
            exact (kz_B_inner_192 h_ro h_R_102).tr kzq_rf
          · skip
            exact (kz_B_inner_192 h_ro h_R_102).tr kzq_rf
        · skip
          exact (kz_B_inner_192 h_ro h_R_102).tr kzq_rf
    · skip
      exact (kz_B_inner_198 h_ro).tr kzq_rf
theorem kz_LP_inner_102 {N : Nat} {ro : Nat → Int32 → Int32 → RSt → Option (Int32 × RSt)} (h_ro : ∀ q a b u, KZq (ro q a b u) u) (n : Nat) : ∀ a : Int32 × Int32 × Int32 × Int32 × Int32 × RSt, KZq (LP_inner_102 N ro n a) a.2.2.2.2.2 := by
  induction n with
  | zero => exact fun a r z e => by have e : (none : Option _) = some (r, z) := e; cases e
  | succ n ih =>
    intro a
    show KZq (B_inner_102 N ro (LP_inner_102 N ro n) a.1 a.2.1 a.2.2.1 a.2.2.2.1 a.2.2.2.2.1 a.2.2.2.2.2) a.2.2.2.2.2
    exact kz_B_inner_102 h_ro ih
theorem kz_B_inner_97 {N : Nat} {ro : Nat → Int32 → Int32 → RSt → Option (Int32 × RSt)} {l1 : Int32} {l2 : Int32} {l3 : Int32} {s0 : Int32} {u : RSt} (h_ro : ∀ q a b u, KZq (ro q a b u) u) : KZq (B_inner_97 N ro l1 l2 l3 s0 u) u := by
  unfold B_inner_97
  exact (kz_LP_inner_102 h_ro _ _).tr kzq_rf
theorem kz_B_inner_96 {N : Nat} {ro : Nat → Int32 → Int32 → RSt → Option (Int32 × RSt)} {l1 : Int32} {l2 : Int32} {l3 : Int32} {u : RSt} (h_ro : ∀ q a b u, KZq (ro q a b u) u) : KZq (B_inner_96 N ro l1 l2 l3 u) u := by
  unfold B_inner_96
  exact (kz_B_inner_97 h_ro).tr kzq_rf
theorem kz_B_inner_17 {N : Nat} {ro : Nat → Int32 → Int32 → RSt → Option (Int32 × RSt)} {l1 : Int32} {s1 : Int32} {u : RSt} (h_ro : ∀ q a b u, KZq (ro q a b u) u) : KZq (B_inner_17 N ro l1 s1 u) u := by
  unfold B_inner_17
  refine KZq_rd (fun _ => ?_)
  refine KZq_bn (kz_F_wrong.tr kzq_rf) (fun _ _ => ?_)
  refine KZq_rd (fun _ => ?_)
  refine KZq_bn (kz_F_cost.tr kzq_rf) (fun _ _ => ?_)
  refine KZq_pu ?_
  refine KZq_rd (fun _ => ?_)
  refine KZq_if ?_ ?_
  · skip
    exact (kz_B_inner_96 h_ro).tr (fz_sI (by decide) kzq_rf)
  · skip
    refine KZq_if ?_ ?_
    · skip
      refine KZq_rd (fun _ => ?_)
      exact (kz_B_inner_97 h_ro).tr (fz_sI (by decide) kzq_rf)
    · skip
      exact (kz_B_inner_96 h_ro).tr (fz_sI (by decide) kzq_rf)
theorem kz_B_inner_0 {N : Nat} {ro : Nat → Int32 → Int32 → RSt → Option (Int32 × RSt)} {u : RSt} (h_ro : ∀ q a b u, KZq (ro q a b u) u) : KZq (B_inner_0 N ro u) u := by
  unfold B_inner_0
  refine KZq_bn (kz_F_own.tr kzq_rf) (fun _ _ => ?_)
  refine KZq_if ?_ ?_
  · skip
    exact (kz_B_inner_17 h_ro).tr kzq_rf
  · skip
    exact (kz_B_inner_17 h_ro).tr kzq_rf
theorem kz_F_inner {N : Nat} {ro : Nat → Int32 → Int32 → RSt → Option (Int32 × RSt)} {u : RSt} (h_ro : ∀ q a b u, KZq (ro q a b u) u) : KZq (F_inner N ro u) u := by
  unfold F_inner
  exact (kz_B_inner_0 h_ro).tr kzq_rf
theorem kz_B_index_35 {N : Nat} {ro : Nat → Int32 → Int32 → RSt → Option (Int32 × RSt)} {l1 : Int32} {l2 : Int32} {l3 : Int32} {s1 : Int32} {u : RSt} (h_ro : ∀ q a b u, KZq (ro q a b u) u) : KZq (B_index_35 N ro l1 l2 l3 s1 u) u := by
  unfold B_index_35
  refine KZq_bn (kz_F_wrong.tr kzq_rf) (fun _ _ => ?_)
  refine KZq_bn (kz_F_emit.tr kzq_rf) (fun _ _ => ?_)
  refine KZq_bn (kz_F_ends.tr kzq_rf) (fun _ _ => ?_)
  exact KZq_some kzq_rf
theorem kz_B_index_0 {N : Nat} {ro : Nat → Int32 → Int32 → RSt → Option (Int32 × RSt)} {l1 : Int32} {l2 : Int32} {u : RSt} (h_ro : ∀ q a b u, KZq (ro q a b u) u) : KZq (B_index_0 N ro l1 l2 u) u := by
  unfold B_index_0
  refine KZq_bn (kz_F_begins.tr kzq_rf) (fun _ _ => ?_)
  refine KZq_rd (fun _ => ?_)
  refine KZq_bn ((h_ro _ _ _ _).tr kzq_rf) (fun _ _ => ?_)
  refine KZq_if ?_ ?_
  · skip
    exact (kz_B_index_35 h_ro).tr kzq_rf
  · skip
    exact (kz_B_index_35 h_ro).tr kzq_rf
theorem kz_F_index {N : Nat} {ro : Nat → Int32 → Int32 → RSt → Option (Int32 × RSt)} {l1 : Int32} {l2 : Int32} {u : RSt} (h_ro : ∀ q a b u, KZq (ro q a b u) u) : KZq (F_index N ro l1 l2 u) u := by
  unfold F_index
  exact (kz_B_index_0 h_ro).tr kzq_rf
theorem kz_B_spot_409 {N : Nat} {ro : Nat → Int32 → Int32 → RSt → Option (Int32 × RSt)} {l7 : Int32} {l11 : Int32} {u : RSt} (h_ro : ∀ q a b u, KZq (ro q a b u) u) : KZq (B_spot_409 N ro l7 l11 u) u := by
  unfold B_spot_409
  refine KZq_pu ?_
  refine KZq_pu ?_
  exact KZq_some (fz_sI (by decide) (fz_sI (by decide) kzq_rf))
theorem kz_B_spot_382 {N : Nat} {ro : Nat → Int32 → Int32 → RSt → Option (Int32 × RSt)} {l7 : Int32} {u : RSt} (h_ro : ∀ q a b u, KZq (ro q a b u) u) : KZq (B_spot_382 N ro l7 u) u := by
  unfold B_spot_382
  refine KZq_bn (kz_F_has.tr kzq_rf) (fun _ _ => ?_)
  refine KZq_if ?_ ?_
  · skip
    exact (kz_B_spot_409 h_ro).tr kzq_rf
  · skip
    refine KZq_bn (kz_F_bounded.tr kzq_rf) (fun _ _ => ?_)
    exact (kz_B_spot_409 h_ro).tr kzq_rf
theorem kz_B_spot_361 {N : Nat} {ro : Nat → Int32 → Int32 → RSt → Option (Int32 × RSt)} {l7 : Int32} {l9 : Int32} {s1 : Int32} {s2 : Int32} {u : RSt} (h_ro : ∀ q a b u, KZq (ro q a b u) u) : KZq (B_spot_361 N ro l7 l9 s1 s2 u) u := by
  unfold B_spot_361
  refine KZq_bn (kz_F_emit.tr kzq_rf) (fun _ _ => ?_)
  refine KZq_if ?_ ?_
  · skip
    exact (kz_B_spot_382 h_ro).tr kzq_rf
  · skip
    refine KZq_bn (kz_F_emit.tr kzq_rf) (fun _ _ => ?_)
    exact (kz_B_spot_382 h_ro).tr kzq_rf
theorem kz_B_spot_331 {N : Nat} {ro : Nat → Int32 → Int32 → RSt → Option (Int32 × RSt)} {l3 : Int32} {l5 : Int32} {l6 : Int32} {l7 : Int32} {l9 : Int32} {s1 : Int32} {u : RSt} (h_ro : ∀ q a b u, KZq (ro q a b u) u) : KZq (B_spot_331 N ro l3 l5 l6 l7 l9 s1 u) u := by
  unfold B_spot_331
  refine KZq_if ?_ ?_
  · skip
    exact (kz_B_spot_361 h_ro).tr kzq_rf
  · skip
    refine KZq_if ?_ ?_
    · skip
      refine KZq_rd (fun _ => ?_)
      exact (kz_B_spot_361 h_ro).tr kzq_rf
    · skip
      refine KZq_rd (fun _ => ?_)
      exact (kz_B_spot_361 h_ro).tr kzq_rf
theorem kz_B_spot_305 {N : Nat} {ro : Nat → Int32 → Int32 → RSt → Option (Int32 × RSt)} {l3 : Int32} {l5 : Int32} {l6 : Int32} {l7 : Int32} {l9 : Int32} {u : RSt} (h_ro : ∀ q a b u, KZq (ro q a b u) u) : KZq (B_spot_305 N ro l3 l5 l6 l7 l9 u) u := by
  unfold B_spot_305
  refine KZq_if ?_ ?_
  · skip
    exact (kz_B_spot_331 h_ro).tr kzq_rf
  · skip
    refine KZq_if ?_ ?_
    · skip
      exact (kz_B_spot_331 h_ro).tr kzq_rf
    · skip
      exact (kz_B_spot_331 h_ro).tr kzq_rf
theorem kz_B_spot_283 {N : Nat} {ro : Nat → Int32 → Int32 → RSt → Option (Int32 × RSt)} {l2 : Int32} {l3 : Int32} {l5 : Int32} {l6 : Int32} {l7 : Int32} {l8 : Int32} {l9 : Int32} {u : RSt} (h_ro : ∀ q a b u, KZq (ro q a b u) u) : KZq (B_spot_283 N ro l2 l3 l5 l6 l7 l8 l9 u) u := by
  unfold B_spot_283
  refine KZq_pu ?_
  refine KZq_if ?_ ?_
  · skip
    exact (kz_B_spot_305 h_ro).tr (fz_sI (by decide) kzq_rf)
  · skip
    refine KZq_bn ((h_ro _ _ _ _).tr (fz_sI (by decide) kzq_rf)) (fun _ _ => ?_)
    exact (kz_B_spot_305 h_ro).tr kzq_rf
theorem kz_B_spot_269 {N : Nat} {ro : Nat → Int32 → Int32 → RSt → Option (Int32 × RSt)} {l1 : Int32} {l2 : Int32} {l3 : Int32} {l5 : Int32} {l6 : Int32} {l7 : Int32} {l8 : Int32} {l9 : Int32} {s1 : Int32} {u : RSt} (h_ro : ∀ q a b u, KZq (ro q a b u) u) : KZq (B_spot_269 N ro l1 l2 l3 l5 l6 l7 l8 l9 s1 u) u := by
  unfold B_spot_269
  refine KZq_bn (kz_F_wrong.tr kzq_rf) (fun _ _ => ?_)
  refine KZq_if ?_ ?_
  · skip
    refine KZq_bn (kz_F_cost.tr kzq_rf) (fun _ _ => ?_)
    exact (kz_B_spot_283 h_ro).tr kzq_rf
  · skip
    exact (kz_B_spot_283 h_ro).tr kzq_rf
theorem kz_B_spot_268 {N : Nat} {ro : Nat → Int32 → Int32 → RSt → Option (Int32 × RSt)} {l1 : Int32} {l2 : Int32} {l3 : Int32} {l5 : Int32} {l6 : Int32} {l7 : Int32} {l8 : Int32} {l9 : Int32} {u : RSt} (h_ro : ∀ q a b u, KZq (ro q a b u) u) : KZq (B_spot_268 N ro l1 l2 l3 l5 l6 l7 l8 l9 u) u := by
  unfold B_spot_268
  exact (kz_B_spot_269 h_ro).tr kzq_rf
theorem kz_B_spot_233 {N : Nat} {ro : Nat → Int32 → Int32 → RSt → Option (Int32 × RSt)} {l1 : Int32} {l2 : Int32} {l3 : Int32} {l5 : Int32} {l6 : Int32} {l7 : Int32} {l8 : Int32} {l9 : Int32} {s1 : Int32} {u : RSt} (h_ro : ∀ q a b u, KZq (ro q a b u) u) : KZq (B_spot_233 N ro l1 l2 l3 l5 l6 l7 l8 l9 s1 u) u := by
  unfold B_spot_233
  refine KZq_bn (kz_F_wrong.tr kzq_rf) (fun _ _ => ?_)
  refine KZq_if ?_ ?_
  · skip
    exact (kz_B_spot_268 h_ro).tr kzq_rf
  · skip
    refine KZq_if ?_ ?_
    · skip
      exact (kz_B_spot_268 h_ro).tr kzq_rf
    · skip
      refine KZq_if ?_ ?_
      · skip
        refine KZq_rd (fun _ => ?_)
        refine KZq_if ?_ ?_
        · skip
          exact (kz_B_spot_269 h_ro).tr kzq_rf
        · skip
          exact (kz_B_spot_268 h_ro).tr kzq_rf
      · skip
        exact (kz_B_spot_268 h_ro).tr kzq_rf
theorem kz_B_spot_232 {N : Nat} {ro : Nat → Int32 → Int32 → RSt → Option (Int32 × RSt)} {l1 : Int32} {l2 : Int32} {l3 : Int32} {l5 : Int32} {l6 : Int32} {l7 : Int32} {l8 : Int32} {l9 : Int32} {u : RSt} (h_ro : ∀ q a b u, KZq (ro q a b u) u) : KZq (B_spot_232 N ro l1 l2 l3 l5 l6 l7 l8 l9 u) u := by
  unfold B_spot_232
  exact (kz_B_spot_233 h_ro).tr kzq_rf
theorem kz_B_spot_223 {N : Nat} {ro : Nat → Int32 → Int32 → RSt → Option (Int32 × RSt)} {l1 : Int32} {l2 : Int32} {l3 : Int32} {l5 : Int32} {l6 : Int32} {l7 : Int32} {l8 : Int32} {l9 : Int32} {s1 : Int32} {u : RSt} (h_ro : ∀ q a b u, KZq (ro q a b u) u) : KZq (B_spot_223 N ro l1 l2 l3 l5 l6 l7 l8 l9 s1 u) u := by
  unfold B_spot_223
  refine KZq_if ?_ ?_
  · skip
    exact (kz_B_spot_232 h_ro).tr kzq_rf
  · skip
    exact (kz_B_spot_233 h_ro).tr kzq_rf
theorem kz_B_spot_185 {N : Nat} {ro : Nat → Int32 → Int32 → RSt → Option (Int32 × RSt)} {l1 : Int32} {l2 : Int32} {l3 : Int32} {l5 : Int32} {l6 : Int32} {l7 : Int32} {s0 : Int32} {u : RSt} (h_ro : ∀ q a b u, KZq (ro q a b u) u) : KZq (B_spot_185 N ro l1 l2 l3 l5 l6 l7 s0 u) u := by
  unfold B_spot_185
  refine KZq_bn (kz_F_isNext.tr kzq_rf) (fun _ _ => ?_)
  refine KZq_if ?_ ?_
  · skip
    exact (kz_B_spot_232 h_ro).tr kzq_rf
  · skip
    refine KZq_if ?_ ?_
    · skip
      refine KZq_rd (fun _ => ?_)
      exact (kz_B_spot_223 h_ro).tr kzq_rf
    · skip
      refine KZq_rd (fun _ => ?_)
      exact (kz_B_spot_223 h_ro).tr kzq_rf
theorem kz_B_spot_153 {N : Nat} {ro : Nat → Int32 → Int32 → RSt → Option (Int32 × RSt)} {l1 : Int32} {l2 : Int32} {l3 : Int32} {l5 : Int32} {l6 : Int32} {s0 : Int32} {u : RSt} (h_ro : ∀ q a b u, KZq (ro q a b u) u) : KZq (B_spot_153 N ro l1 l2 l3 l5 l6 s0 u) u := by
  unfold B_spot_153
  refine KZq_if ?_ ?_
  · skip
    exact (kz_B_spot_185 h_ro).tr kzq_rf
  · skip
    refine KZq_if ?_ ?_
    · skip
      refine KZq_rd (fun _ => ?_)
      exact (kz_B_spot_185 h_ro).tr kzq_rf
    · skip
      refine KZq_rd (fun _ => ?_)
      exact (kz_B_spot_185 h_ro).tr kzq_rf
theorem kz_B_spot_108 {N : Nat} {ro : Nat → Int32 → Int32 → RSt → Option (Int32 × RSt)} {l1 : Int32} {l2 : Int32} {l3 : Int32} {l4 : Int32} {s0 : Int32} {u : RSt} (h_ro : ∀ q a b u, KZq (ro q a b u) u) : KZq (B_spot_108 N ro l1 l2 l3 l4 s0 u) u := by
  unfold B_spot_108
  refine KZq_if ?_ ?_
  · skip
    exact (kz_B_spot_153 h_ro).tr kzq_rf
  · skip
    refine KZq_if ?_ ?_
    · skip
      refine KZq_rd (fun _ => ?_)
      exact (kz_B_spot_153 h_ro).tr kzq_rf
    · skip
      refine KZq_rd (fun _ => ?_)
      exact (kz_B_spot_153 h_ro).tr kzq_rf
theorem kz_B_spot_107 {N : Nat} {ro : Nat → Int32 → Int32 → RSt → Option (Int32 × RSt)} {l1 : Int32} {l2 : Int32} {l3 : Int32} {l4 : Int32} {u : RSt} (h_ro : ∀ q a b u, KZq (ro q a b u) u) : KZq (B_spot_107 N ro l1 l2 l3 l4 u) u := by
  unfold B_spot_107
  exact (kz_B_spot_108 h_ro).tr kzq_rf
theorem kz_B_spot_84 {N : Nat} {ro : Nat → Int32 → Int32 → RSt → Option (Int32 × RSt)} {l1 : Int32} {l2 : Int32} {l3 : Int32} {l4 : Int32} {s1 : Int32} {u : RSt} (h_ro : ∀ q a b u, KZq (ro q a b u) u) : KZq (B_spot_84 N ro l1 l2 l3 l4 s1 u) u := by
  unfold B_spot_84
  refine KZq_bn (kz_F_wrong.tr kzq_rf) (fun _ _ => ?_)
  refine KZq_if ?_ ?_
  · skip
    exact (kz_B_spot_107 h_ro).tr kzq_rf
  · skip
    refine KZq_if ?_ ?_
    · skip
      exact (kz_B_spot_108 h_ro).tr kzq_rf
    · skip
      exact (kz_B_spot_107 h_ro).tr kzq_rf
theorem kz_B_spot_83 {N : Nat} {ro : Nat → Int32 → Int32 → RSt → Option (Int32 × RSt)} {l1 : Int32} {l2 : Int32} {l3 : Int32} {l4 : Int32} {u : RSt} (h_ro : ∀ q a b u, KZq (ro q a b u) u) : KZq (B_spot_83 N ro l1 l2 l3 l4 u) u := by
  unfold B_spot_83
  exact (kz_B_spot_84 h_ro).tr kzq_rf
theorem kz_B_spot_65 {N : Nat} {ro : Nat → Int32 → Int32 → RSt → Option (Int32 × RSt)} {l1 : Int32} {l2 : Int32} {l3 : Int32} {s0 : Int32} {u : RSt} (h_ro : ∀ q a b u, KZq (ro q a b u) u) : KZq (B_spot_65 N ro l1 l2 l3 s0 u) u := by
  unfold B_spot_65
  refine KZq_if ?_ ?_
  · skip
    refine KZq_if ?_ ?_
    · skip
      exact (kz_B_spot_84 h_ro).tr kzq_rf
    · skip
      exact (kz_B_spot_83 h_ro).tr kzq_rf
  · skip
    exact (kz_B_spot_83 h_ro).tr kzq_rf
theorem kz_B_spot_64 {N : Nat} {ro : Nat → Int32 → Int32 → RSt → Option (Int32 × RSt)} {l1 : Int32} {l2 : Int32} {l3 : Int32} {u : RSt} (h_ro : ∀ q a b u, KZq (ro q a b u) u) : KZq (B_spot_64 N ro l1 l2 l3 u) u := by
  unfold B_spot_64
  exact (kz_B_spot_65 h_ro).tr kzq_rf
theorem kz_B_spot_43 {N : Nat} {ro : Nat → Int32 → Int32 → RSt → Option (Int32 × RSt)} {l1 : Int32} {l2 : Int32} {s0 : Int32} {u : RSt} (h_ro : ∀ q a b u, KZq (ro q a b u) u) : KZq (B_spot_43 N ro l1 l2 s0 u) u := by
  unfold B_spot_43
  refine KZq_if ?_ ?_
  · skip
    refine KZq_if ?_ ?_
    · skip
      exact (kz_B_spot_64 h_ro).tr kzq_rf
    · skip
      refine KZq_bn (kz_F_own.tr kzq_rf) (fun _ _ => ?_)
      exact (kz_B_spot_65 h_ro).tr kzq_rf
  · skip
    exact (kz_B_spot_64 h_ro).tr kzq_rf
theorem kz_B_spot_0 {N : Nat} {ro : Nat → Int32 → Int32 → RSt → Option (Int32 × RSt)} {l1 : Int32} {u : RSt} (h_ro : ∀ q a b u, KZq (ro q a b u) u) : KZq (B_spot_0 N ro l1 u) u := by
  unfold B_spot_0
  refine KZq_rd (fun _ => ?_)
  refine KZq_if ?_ ?_
  · skip
    exact (kz_B_spot_43 h_ro).tr kzq_rf
  · skip
    refine KZq_rd (fun _ => ?_)
    refine KZq_rd (fun _ => ?_)
    refine KZq_bn (kz_F_slotOf.tr kzq_rf) (fun _ _ => ?_)
    exact (kz_B_spot_43 h_ro).tr kzq_rf
theorem kz_F_spot {N : Nat} {ro : Nat → Int32 → Int32 → RSt → Option (Int32 × RSt)} {l1 : Int32} {u : RSt} (h_ro : ∀ q a b u, KZq (ro q a b u) u) : KZq (F_spot N ro l1 u) u := by
  unfold F_spot
  exact (kz_B_spot_0 h_ro).tr kzq_rf
theorem kz_FE_ {N : Nat} : ∀ (d q : Nat) (a b : Int32) (u : RSt), KZq (FE_ N d q a b u) u := by
  intro d
  induction d with
  | zero => exact fun q a b u => KZq_none
  | succ d ih =>
    intro q a b u
    show KZq (if q = 0 then F_expression N (FE_ N d) u else if q = 1 then F_two N (FE_ N d) a u else if q = 2 then F_operand N (FE_ N d) u else if q = 3 then F_signed N (FE_ N d) a u else if q = 4 then F_cast N (FE_ N d) u else if q = 5 then F_call N (FE_ N d) u else if q = 6 then F_inner N (FE_ N d) u else if q = 7 then F_index N (FE_ N d) a b u else if q = 8 then F_spot N (FE_ N d) a u else none) u
    refine KZq_if (kz_F_expression ih) ?_
    refine KZq_if (kz_F_two ih) ?_
    refine KZq_if (kz_F_operand ih) ?_
    refine KZq_if (kz_F_signed ih) ?_
    refine KZq_if (kz_F_cast ih) ?_
    refine KZq_if (kz_F_call ih) ?_
    refine KZq_if (kz_F_inner ih) ?_
    refine KZq_if (kz_F_index ih) ?_
    refine KZq_if (kz_F_spot ih) ?_
    exact KZq_none
theorem kz_G_expression {N : Nat} {u : RSt} : KZq (G_expression N u) u := kz_FE_ _ _ _ _ _
theorem kz_G_spot {N : Nat} {l1 : Int32} {u : RSt} : KZq (G_spot N l1 u) u := kz_FE_ _ _ _ _ _
theorem kz_B_returns_136 {N : Nat} {u : RSt}  : KZq (B_returns_136 N u) u := by
  unfold B_returns_136
  refine KZq_bn (kz_F_take.tr kzq_rf) (fun _ _ => ?_)
  exact KZq_some kzq_rf
theorem kz_B_returns_124 {N : Nat} {u : RSt}  : KZq (B_returns_124 N u) u := by
  unfold B_returns_124
  exact kz_B_returns_136.tr kzq_rf
theorem kz_B_returns_46 {N : Nat} {l1 : Int32} {l2 : Int32} {s1 : Int32} {u : RSt}  : KZq (B_returns_46 N l1 l2 s1 u) u := by
  unfold B_returns_46
  refine KZq_bn (kz_F_wrong.tr kzq_rf) (fun _ _ => ?_)
  refine KZq_if ?_ ?_
  · skip
    refine KZq_bn (kz_F_emit.tr kzq_rf) (fun _ _ => ?_)
    exact kz_B_returns_136.tr kzq_rf
  · skip
    refine KZq_rd (fun _ => ?_)
    refine KZq_bn (kz_G_expression.tr kzq_rf) (fun _ _ => ?_)
    refine KZq_if ?_ ?_
    · skip
      exact kz_B_returns_124.tr kzq_rf
    · skip
      refine KZq_if ?_ ?_
      · skip
        refine KZq_rd (fun _ => ?_)
        refine KZq_bn (kz_F_isTooWide.tr kzq_rf) (fun _ _ => ?_)
        refine KZq_bn (kz_F_wrong.tr kzq_rf) (fun _ _ => ?_)
        refine KZq_rd (fun _ => ?_)
        refine KZq_bn (kz_F_emit.tr kzq_rf) (fun _ _ => ?_)
        exact kz_B_returns_124.tr kzq_rf
      · skip
        exact kz_B_returns_124.tr kzq_rf
theorem kz_B_returns_38 {N : Nat} {l1 : Int32} {l2 : Int32} {s1 : Int32} {s2 : Int32} {u : RSt}  : KZq (B_returns_38 N l1 l2 s1 s2 u) u := by
  unfold B_returns_38
  refine KZq_if ?_ ?_
  · skip
    exact kz_B_returns_46.tr kzq_rf
  · skip
    exact kz_B_returns_46.tr kzq_rf
theorem kz_B_returns_22 {N : Nat} {l1 : Int32} {s0 : Int32} {u : RSt}  : KZq (B_returns_22 N l1 s0 u) u := by
  unfold B_returns_22
  refine KZq_if ?_ ?_
  · skip
    exact kz_B_returns_38.tr kzq_rf
  · skip
    exact kz_B_returns_38.tr kzq_rf
theorem kz_B_returns_21 {N : Nat} {l1 : Int32} {u : RSt}  : KZq (B_returns_21 N l1 u) u := by
  unfold B_returns_21
  exact kz_B_returns_22.tr kzq_rf
theorem kz_B_returns_0 {N : Nat} {l1 : Int32} {u : RSt}  : KZq (B_returns_0 N l1 u) u := by
  unfold B_returns_0
  refine KZq_if ?_ ?_
  · skip
    refine KZq_bn (kz_F_is.tr kzq_rf) (fun _ _ => ?_)
    refine KZq_if ?_ ?_
    · skip
      exact kz_B_returns_22.tr kzq_rf
    · skip
      exact kz_B_returns_21.tr kzq_rf
  · skip
    exact kz_B_returns_21.tr kzq_rf
theorem kz_F_returns {N : Nat} {l1 : Int32} {u : RSt}  : KZq (F_returns N l1 u) u := by
  unfold F_returns
  exact kz_B_returns_0.tr kzq_rf
theorem kz_B_runs_275 {N : Nat} {R_117 : Int32 × Int32 × Int32 × Int32 × Int32 × RSt → Option (Int32 × RSt)} {l1 : Int32} {l3 : Int32} {l4 : Int32} {l5 : Int32} {u : RSt} (h_R_117 : ∀ a, KZq (R_117 a) a.2.2.2.2.2) : KZq (B_runs_275 N R_117 l1 l3 l4 l5 u) u := by
  unfold B_runs_275
  refine KZq_bn (kz_F_has.tr kzq_rf) (fun _ _ => ?_)
  exact (h_R_117 _).tr kzq_rf
theorem kz_B_runs_215 {N : Nat} {R_117 : Int32 × Int32 × Int32 × Int32 × Int32 × RSt → Option (Int32 × RSt)} {l1 : Int32} {l3 : Int32} {l4 : Int32} {l5 : Int32} {l7 : Int32} {l8 : Int32} {s0 : Int32} {u : RSt} (h_R_117 : ∀ a, KZq (R_117 a) a.2.2.2.2.2) : KZq (B_runs_215 N R_117 l1 l3 l4 l5 l7 l8 s0 u) u := by
  unfold B_runs_215
  refine KZq_rd (fun _ => ?_)
  refine KZq_bn (kz_G_expression.tr kzq_rf) (fun _ _ => ?_)
  refine KZq_if ?_ ?_
  · skip
    exact (kz_B_runs_275 h_R_117).tr kzq_rf
  · skip
    refine KZq_rd (fun _ => ?_)
    refine KZq_bn (kz_F_isTooWide.tr kzq_rf) (fun _ _ => ?_)
    refine KZq_bn (kz_F_wrong.tr kzq_rf) (fun _ _ => ?_)
    refine KZq_rd (fun _ => ?_)
    refine KZq_bn (kz_F_emit.tr kzq_rf) (fun _ _ => ?_)
    exact (kz_B_runs_275 h_R_117).tr kzq_rf
theorem kz_B_runs_183 {N : Nat} {R_117 : Int32 × Int32 × Int32 × Int32 × Int32 × RSt → Option (Int32 × RSt)} {l1 : Int32} {l3 : Int32} {l4 : Int32} {l5 : Int32} {l7 : Int32} {s0 : Int32} {u : RSt} (h_R_117 : ∀ a, KZq (R_117 a) a.2.2.2.2.2) : KZq (B_runs_183 N R_117 l1 l3 l4 l5 l7 s0 u) u := by
  unfold B_runs_183
  refine KZq_if ?_ ?_
  · skip
    exact (kz_B_runs_215 h_R_117).tr kzq_rf
  · skip
    refine KZq_rd (fun _ => ?_)
    refine KZq_rd (fun _ => ?_)
    refine KZq_bn (kz_F_emit.tr kzq_rf) (fun _ _ => ?_)
    exact (kz_B_runs_215 h_R_117).tr kzq_rf
theorem kz_B_runs_153 {N : Nat} {R_117 : Int32 × Int32 × Int32 × Int32 × Int32 × RSt → Option (Int32 × RSt)} {l1 : Int32} {l3 : Int32} {l4 : Int32} {l5 : Int32} {s0 : Int32} {u : RSt} (h_R_117 : ∀ a, KZq (R_117 a) a.2.2.2.2.2) : KZq (B_runs_153 N R_117 l1 l3 l4 l5 s0 u) u := by
  unfold B_runs_153
  refine KZq_if ?_ ?_
  · skip
    exact (kz_B_runs_183 h_R_117).tr kzq_rf
  · skip
    refine KZq_rd (fun _ => ?_)
    exact (kz_B_runs_183 h_R_117).tr kzq_rf
theorem kz_B_runs_152 {N : Nat} {R_117 : Int32 × Int32 × Int32 × Int32 × Int32 × RSt → Option (Int32 × RSt)} {l1 : Int32} {l3 : Int32} {l4 : Int32} {l5 : Int32} {u : RSt} (h_R_117 : ∀ a, KZq (R_117 a) a.2.2.2.2.2) : KZq (B_runs_152 N R_117 l1 l3 l4 l5 u) u := by
  unfold B_runs_152
  exact (kz_B_runs_153 h_R_117).tr kzq_rf
theorem kz_B_runs_344 {N : Nat} {u : RSt}  : KZq (B_runs_344 N u) u := by
  unfold B_runs_344
  refine KZq_bn (kz_F_take.tr kzq_rf) (fun _ _ => ?_)
  exact KZq_some kzq_rf
theorem kz_B_runs_329 {N : Nat} {l1 : Int32} {l3 : Int32} {s1 : Int32} {u : RSt}  : KZq (B_runs_329 N l1 l3 s1 u) u := by
  unfold B_runs_329
  refine KZq_bn (kz_F_wrong.tr kzq_rf) (fun _ _ => ?_)
  refine KZq_bn (kz_F_emit.tr kzq_rf) (fun _ _ => ?_)
  exact kz_B_runs_344.tr kzq_rf
theorem kz_B_runs_117 {N : Nat} {R_117 : Int32 × Int32 × Int32 × Int32 × Int32 × RSt → Option (Int32 × RSt)} {l1 : Int32} {l3 : Int32} {l4 : Int32} {l5 : Int32} {l6 : Int32} {u : RSt} (h_R_117 : ∀ a, KZq (R_117 a) a.2.2.2.2.2) : KZq (B_runs_117 N R_117 l1 l3 l4 l5 l6 u) u := by
  unfold B_runs_117
  refine KZq_if ?_ ?_
  · skip
    refine KZq_bn (kz_F_ends.tr kzq_rf) (fun _ _ => ?_)
    refine KZq_if ?_ ?_
    · skip
      exact kz_B_runs_344.tr kzq_rf
    · skip
      refine KZq_if ?_ ?_
      · skip
        refine KZq_rd (fun _ => ?_)
        refine KZq_if ?_ ?_
        · skip
          exact kz_B_runs_329.tr kzq_rf
        · skip
          exact kz_B_runs_329.tr kzq_rf
      · skip
        exact kz_B_runs_344.tr kzq_rf
  · skip
    refine KZq_if ?_ ?_
    · skip
      exact (kz_B_runs_152 h_R_117).tr kzq_rf
    · skip
      refine KZq_if ?_ ?_
      · skip
        refine KZq_rd (fun _ => ?_)
        refine KZq_if ?_ ?_
        · skip
          exact (kz_B_runs_152 h_R_117).tr kzq_rf
        · skip
          exact (kz_B_runs_153 h_R_117).tr kzq_rf
      · skip
        exact (kz_B_runs_152 h_R_117).tr kzq_rf
theorem kz_LP_runs_117 {N : Nat}  (n : Nat) : ∀ a : Int32 × Int32 × Int32 × Int32 × Int32 × RSt, KZq (LP_runs_117 N n a) a.2.2.2.2.2 := by
  induction n with
  | zero => exact fun a r z e => by have e : (none : Option _) = some (r, z) := e; cases e
  | succ n ih =>
    intro a
    show KZq (B_runs_117 N (LP_runs_117 N n) a.1 a.2.1 a.2.2.1 a.2.2.2.1 a.2.2.2.2.1 a.2.2.2.2.2) a.2.2.2.2.2
    exact kz_B_runs_117 ih
theorem kz_B_runs_115 {N : Nat} {l1 : Int32} {l3 : Int32} {l4 : Int32} {l5 : Int32} {s0 : Int32} {u : RSt}  : KZq (B_runs_115 N l1 l3 l4 l5 s0 u) u := by
  unfold B_runs_115
  exact (kz_LP_runs_117  _ _).tr kzq_rf
theorem kz_B_runs_114 {N : Nat} {l1 : Int32} {l3 : Int32} {l4 : Int32} {l5 : Int32} {u : RSt}  : KZq (B_runs_114 N l1 l3 l4 l5 u) u := by
  unfold B_runs_114
  exact kz_B_runs_115.tr kzq_rf
theorem kz_B_runs_81 {N : Nat} {l1 : Int32} {l3 : Int32} {s0 : Int32} {u : RSt}  : KZq (B_runs_81 N l1 l3 s0 u) u := by
  unfold B_runs_81
  refine KZq_bn (kz_F_begins.tr kzq_rf) (fun _ _ => ?_)
  refine KZq_if ?_ ?_
  · skip
    refine KZq_bn (kz_F_is.tr kzq_rf) (fun _ _ => ?_)
    refine KZq_if ?_ ?_
    · skip
      exact kz_B_runs_115.tr kzq_rf
    · skip
      exact kz_B_runs_114.tr kzq_rf
  · skip
    exact kz_B_runs_114.tr kzq_rf
theorem kz_B_runs_80 {N : Nat} {l1 : Int32} {l3 : Int32} {u : RSt}  : KZq (B_runs_80 N l1 l3 u) u := by
  unfold B_runs_80
  exact kz_B_runs_81.tr kzq_rf
theorem kz_B_runs_27 {N : Nat} {l1 : Int32} {l2 : Int32} {s1 : Int32} {u : RSt}  : KZq (B_runs_27 N l1 l2 s1 u) u := by
  unfold B_runs_27
  refine KZq_bn (kz_F_wrong.tr kzq_rf) (fun _ _ => ?_)
  refine KZq_bn (kz_F_cost.tr kzq_rf) (fun _ _ => ?_)
  refine KZq_pu ?_
  refine KZq_if ?_ ?_
  · skip
    exact kz_B_runs_80.tr (fz_sI (by decide) kzq_rf)
  · skip
    refine KZq_if ?_ ?_
    · skip
      refine KZq_rd (fun _ => ?_)
      exact kz_B_runs_81.tr (fz_sI (by decide) kzq_rf)
    · skip
      exact kz_B_runs_80.tr (fz_sI (by decide) kzq_rf)
theorem kz_B_runs_0 {N : Nat} {u : RSt}  : KZq (B_runs_0 N u) u := by
  unfold B_runs_0
  refine KZq_rd (fun _ => ?_)
  refine KZq_bn (kz_F_own.tr kzq_rf) (fun _ _ => ?_)
  refine KZq_if ?_ ?_
  · skip
    exact kz_B_runs_27.tr kzq_rf
  · skip
    exact kz_B_runs_27.tr kzq_rf
theorem kz_F_runs {N : Nat} {u : RSt}  : KZq (F_runs N u) u := by
  unfold F_runs
  exact kz_B_runs_0.tr kzq_rf
theorem kz_B_sets_442 {N : Nat} {u : RSt}  : KZq (B_sets_442 N u) u := by
  unfold B_sets_442
  refine KZq_bn (kz_F_take.tr kzq_rf) (fun _ _ => ?_)
  exact KZq_some kzq_rf
theorem kz_B_sets_233 {N : Nat} {s0 : Int32} {u : RSt}  : KZq (B_sets_233 N s0 u) u := by
  unfold B_sets_233
  exact kz_B_sets_442.tr kzq_rf
theorem kz_B_sets_203 {N : Nat} {l1 : Int32} {l2 : Int32} {l4 : Int32} {s1 : Int32} {u : RSt}  : KZq (B_sets_203 N l1 l2 l4 s1 u) u := by
  unfold B_sets_203
  refine KZq_bn (kz_F_wrong.tr kzq_rf) (fun _ _ => ?_)
  refine KZq_if ?_ ?_
  · skip
    refine KZq_bn (kz_F_emit.tr kzq_rf) (fun _ _ => ?_)
    exact kz_B_sets_233.tr kzq_rf
  · skip
    refine KZq_bn (kz_F_emit.tr kzq_rf) (fun _ _ => ?_)
    exact kz_B_sets_233.tr kzq_rf
theorem kz_B_sets_202 {N : Nat} {l1 : Int32} {l2 : Int32} {l4 : Int32} {u : RSt}  : KZq (B_sets_202 N l1 l2 l4 u) u := by
  unfold B_sets_202
  exact kz_B_sets_203.tr kzq_rf
theorem kz_B_sets_417 {N : Nat} {l1 : Int32} {l4 : Int32} {l8 : Int32} {s0 : Int32} {u : RSt}  : KZq (B_sets_417 N l1 l4 l8 s0 u) u := by
  unfold B_sets_417
  refine KZq_bn (kz_F_joined.tr kzq_rf) (fun _ _ => ?_)
  refine KZq_bn (kz_F_emit.tr kzq_rf) (fun _ _ => ?_)
  exact kz_B_sets_442.tr kzq_rf
theorem kz_B_sets_323 {N : Nat} {l1 : Int32} {l4 : Int32} {l8 : Int32} {u : RSt}  : KZq (B_sets_323 N l1 l4 l8 u) u := by
  unfold B_sets_323
  exact kz_B_sets_417.tr kzq_rf
theorem kz_B_sets_343 {N : Nat} {l1 : Int32} {l4 : Int32} {l8 : Int32} {u : RSt}  : KZq (B_sets_343 N l1 l4 l8 u) u := by
  unfold B_sets_343
  exact kz_B_sets_417.tr kzq_rf
theorem kz_B_sets_270 {N : Nat} {l1 : Int32} {l3 : Int32} {l4 : Int32} {l8 : Int32} {u : RSt}  : KZq (B_sets_270 N l1 l3 l4 l8 u) u := by
  unfold B_sets_270
  refine KZq_if ?_ ?_
  · skip
    exact kz_B_sets_417.tr kzq_rf
  · skip
    refine KZq_if ?_ ?_
    · skip
      exact kz_B_sets_417.tr kzq_rf
    · skip
      refine KZq_if ?_ ?_
      · skip
        exact kz_B_sets_417.tr kzq_rf
      · skip
        refine KZq_if ?_ ?_
        · skip
          exact kz_B_sets_323.tr kzq_rf
        · skip
          refine KZq_if ?_ ?_
          · skip
            exact kz_B_sets_323.tr kzq_rf
          · skip
            refine KZq_if ?_ ?_
            · skip
              exact kz_B_sets_343.tr kzq_rf
            · skip
              refine KZq_if ?_ ?_
              · skip
                exact kz_B_sets_343.tr kzq_rf
              · skip
                refine KZq_if ?_ ?_
                · skip
                  exact kz_B_sets_417.tr kzq_rf
                · skip
                  refine KZq_if ?_ ?_
                  · skip
                    exact kz_B_sets_417.tr kzq_rf
                  · skip
                    refine KZq_if ?_ ?_
                    · skip
                      exact kz_B_sets_417.tr kzq_rf
                    · skip
                      refine KZq_if ?_ ?_
                      · skip
                        exact kz_B_sets_417.tr kzq_rf
                      · skip
                        refine KZq_if ?_ ?_
                        · skip
                          exact kz_B_sets_417.tr kzq_rf
                        · skip
                          exact kz_B_sets_417.tr kzq_rf
theorem kz_B_sets_145 {N : Nat} {l1 : Int32} {l2 : Int32} {l3 : Int32} {l4 : Int32} {l5 : Int32} {s1 : Int32} {u : RSt}  : KZq (B_sets_145 N l1 l2 l3 l4 l5 s1 u) u := by
  unfold B_sets_145
  refine KZq_bn (kz_F_wrong.tr kzq_rf) (fun _ _ => ?_)
  refine KZq_if ?_ ?_
  · skip
    refine KZq_pu ?_
    refine KZq_if ?_ ?_
    · skip
      refine KZq_bn (kz_G_expression.tr (fz_sI (by decide) kzq_rf)) (fun _ _ => ?_)
      refine KZq_if ?_ ?_
      · skip
        refine KZq_bn (kz_F_isTooWide.tr kzq_rf) (fun _ _ => ?_)
        refine KZq_if ?_ ?_
        · skip
          exact kz_B_sets_202.tr kzq_rf
        · skip
          exact kz_B_sets_203.tr kzq_rf
      · skip
        exact kz_B_sets_202.tr kzq_rf
    · skip
      refine KZq_bn (kz_F_emit.tr (fz_sI (by decide) kzq_rf)) (fun _ _ => ?_)
      refine KZq_if ?_ ?_
      · skip
        refine KZq_bn (kz_F_push.tr kzq_rf) (fun _ _ => ?_)
        exact kz_B_sets_270.tr kzq_rf
      · skip
        refine KZq_bn (kz_G_expression.tr kzq_rf) (fun _ _ => ?_)
        exact kz_B_sets_270.tr kzq_rf
  · skip
    exact KZq_some kzq_rf
theorem kz_B_sets_144 {N : Nat} {l1 : Int32} {l2 : Int32} {l3 : Int32} {l4 : Int32} {l5 : Int32} {u : RSt}  : KZq (B_sets_144 N l1 l2 l3 l4 l5 u) u := by
  unfold B_sets_144
  exact kz_B_sets_145.tr kzq_rf
theorem kz_B_sets_127 {N : Nat} {l1 : Int32} {l2 : Int32} {l3 : Int32} {l4 : Int32} {l5 : Int32} {u : RSt}  : KZq (B_sets_127 N l1 l2 l3 l4 l5 u) u := by
  unfold B_sets_127
  refine KZq_if ?_ ?_
  · skip
    exact kz_B_sets_144.tr kzq_rf
  · skip
    refine KZq_if ?_ ?_
    · skip
      exact kz_B_sets_144.tr kzq_rf
    · skip
      exact kz_B_sets_145.tr kzq_rf
theorem kz_B_sets_97 {N : Nat} {l1 : Int32} {l2 : Int32} {l3 : Int32} {l4 : Int32} {l5 : Int32} {s0 : Int32} {u : RSt}  : KZq (B_sets_97 N l1 l2 l3 l4 l5 s0 u) u := by
  unfold B_sets_97
  refine KZq_if ?_ ?_
  · skip
    refine KZq_if ?_ ?_
    · skip
      exact kz_B_sets_127.tr kzq_rf
    · skip
      refine KZq_if ?_ ?_
      · skip
        refine KZq_if ?_ ?_
        · skip
          refine KZq_bn (kz_F_stuck.tr kzq_rf) (fun _ _ => ?_)
          exact kz_B_sets_127.tr kzq_rf
        · skip
          exact kz_B_sets_127.tr kzq_rf
      · skip
        exact kz_B_sets_127.tr kzq_rf
  · skip
    exact kz_B_sets_127.tr kzq_rf
theorem kz_B_sets_92 {N : Nat} {l1 : Int32} {l2 : Int32} {l3 : Int32} {l4 : Int32} {l5 : Int32} {u : RSt}  : KZq (B_sets_92 N l1 l2 l3 l4 l5 u) u := by
  unfold B_sets_92
  exact kz_B_sets_97.tr kzq_rf
theorem kz_B_sets_76 {N : Nat} {l1 : Int32} {l2 : Int32} {l3 : Int32} {l4 : Int32} {s0 : Int32} {u : RSt}  : KZq (B_sets_76 N l1 l2 l3 l4 s0 u) u := by
  unfold B_sets_76
  refine KZq_if ?_ ?_
  · skip
    exact kz_B_sets_92.tr kzq_rf
  · skip
    refine KZq_if ?_ ?_
    · skip
      exact kz_B_sets_92.tr kzq_rf
    · skip
      exact kz_B_sets_97.tr kzq_rf
theorem kz_B_sets_71 {N : Nat} {l1 : Int32} {l2 : Int32} {l3 : Int32} {l4 : Int32} {u : RSt}  : KZq (B_sets_71 N l1 l2 l3 l4 u) u := by
  unfold B_sets_71
  exact kz_B_sets_76.tr kzq_rf
theorem kz_B_sets_50 {N : Nat} {l1 : Int32} {l2 : Int32} {l3 : Int32} {l4 : Int32} {u : RSt}  : KZq (B_sets_50 N l1 l2 l3 l4 u) u := by
  unfold B_sets_50
  refine KZq_if ?_ ?_
  · skip
    exact kz_B_sets_71.tr kzq_rf
  · skip
    refine KZq_if ?_ ?_
    · skip
      exact kz_B_sets_71.tr kzq_rf
    · skip
      refine KZq_if ?_ ?_
      · skip
        exact kz_B_sets_71.tr kzq_rf
      · skip
        exact kz_B_sets_76.tr kzq_rf
theorem kz_B_sets_0 {N : Nat} {u : RSt}  : KZq (B_sets_0 N u) u := by
  unfold B_sets_0
  refine KZq_bn (kz_G_spot.tr kzq_rf) (fun _ _ => ?_)
  refine KZq_rd (fun _ => ?_)
  refine KZq_rd (fun _ => ?_)
  refine KZq_if ?_ ?_
  · skip
    exact kz_B_sets_50.tr kzq_rf
  · skip
    refine KZq_if ?_ ?_
    · skip
      exact kz_B_sets_71.tr kzq_rf
    · skip
      exact kz_B_sets_50.tr kzq_rf
theorem kz_F_sets {N : Nat} {u : RSt}  : KZq (F_sets N u) u := by
  unfold F_sets
  exact kz_B_sets_0.tr kzq_rf
theorem kz_B_body_31 {N : Nat} {ro : Nat → Int32 → Int32 → RSt → Option (Int32 × RSt)} {u : RSt} (h_ro : ∀ q a b u, KZq (ro q a b u) u) : KZq (B_body_31 N ro u) u := by
  unfold B_body_31
  refine KZq_bn (kz_F_ends.tr kzq_rf) (fun _ _ => ?_)
  exact KZq_some kzq_rf
theorem kz_B_body_7 {N : Nat} {ro : Nat → Int32 → Int32 → RSt → Option (Int32 × RSt)} {R_7 : RSt → Option (Int32 × RSt)} {u : RSt} (h_ro : ∀ q a b u, KZq (ro q a b u) u) (h_R_7 : ∀ a, KZq (R_7 a) a) : KZq (B_body_7 N ro R_7 u) u := by
  unfold B_body_7
  refine KZq_if ?_ ?_
  · skip
    refine KZq_bn (kz_F_is.tr kzq_rf) (fun _ _ => ?_)
    refine KZq_if ?_ ?_
    · skip
      refine KZq_bn ((h_ro _ _ _ _).tr kzq_rf) (fun _ _ => ?_)
      exact (h_R_7 _).tr kzq_rf
    · skip
      exact (kz_B_body_31 h_ro).tr kzq_rf
  · skip
    exact (kz_B_body_31 h_ro).tr kzq_rf
theorem kz_LP_body_7 {N : Nat} {ro : Nat → Int32 → Int32 → RSt → Option (Int32 × RSt)} (h_ro : ∀ q a b u, KZq (ro q a b u) u) (n : Nat) : ∀ a : RSt, KZq (LP_body_7 N ro n a) a := by
  induction n with
  | zero => exact fun a r z e => by have e : (none : Option _) = some (r, z) := e; cases e
  | succ n ih =>
    intro a
    show KZq (B_body_7 N ro (LP_body_7 N ro n) a) a
    exact kz_B_body_7 h_ro ih
theorem kz_B_body_0 {N : Nat} {ro : Nat → Int32 → Int32 → RSt → Option (Int32 × RSt)} {u : RSt} (h_ro : ∀ q a b u, KZq (ro q a b u) u) : KZq (B_body_0 N ro u) u := by
  unfold B_body_0
  refine KZq_bn (kz_F_begins.tr kzq_rf) (fun _ _ => ?_)
  exact (kz_LP_body_7 h_ro _ _).tr kzq_rf
theorem kz_F_body {N : Nat} {ro : Nat → Int32 → Int32 → RSt → Option (Int32 × RSt)} {u : RSt} (h_ro : ∀ q a b u, KZq (ro q a b u) u) : KZq (F_body N ro u) u := by
  unfold F_body
  exact (kz_B_body_0 h_ro).tr kzq_rf
theorem kz_B_stat_66 {N : Nat} {ro : Nat → Int32 → Int32 → RSt → Option (Int32 × RSt)} {l1 : Int32} {l2 : Int32} {s0 : Int32} {u : RSt} (h_ro : ∀ q a b u, KZq (ro q a b u) u) : KZq (B_stat_66 N ro l1 l2 s0 u) u := by
  unfold B_stat_66
  refine KZq_if ?_ ?_
  · skip
    refine KZq_bn (kz_F_stuck.tr kzq_rf) (fun _ _ => ?_)
    exact KZq_some kzq_rf
  · skip
    refine KZq_bn (kz_F_cost.tr kzq_rf) (fun _ _ => ?_)
    refine KZq_if ?_ ?_
    · skip
      refine KZq_bn (kz_F_isNext.tr kzq_rf) (fun _ _ => ?_)
      refine KZq_if ?_ ?_
      · skip
        refine KZq_bn (kz_F_sets.tr kzq_rf) (fun _ _ => ?_)
        exact KZq_some kzq_rf
      · skip
        refine KZq_bn (kz_F_runs.tr kzq_rf) (fun _ _ => ?_)
        exact KZq_some kzq_rf
    · skip
      refine KZq_pu ?_
      refine KZq_if ?_ ?_
      · skip
        refine KZq_bn ((h_ro _ _ _ _).tr (fz_sI (by decide) kzq_rf)) (fun _ _ => ?_)
        exact KZq_some kzq_rf
      · skip
        refine KZq_if ?_ ?_
        · skip
          refine KZq_bn ((h_ro _ _ _ _).tr (fz_sI (by decide) kzq_rf)) (fun _ _ => ?_)
          exact KZq_some kzq_rf
        · skip
          refine KZq_if ?_ ?_
          · skip
            refine KZq_bn ((h_ro _ _ _ _).tr (fz_sI (by decide) kzq_rf)) (fun _ _ => ?_)
            exact KZq_some kzq_rf
          · skip
            refine KZq_if ?_ ?_
            · skip
              refine KZq_bn ((h_ro _ _ _ _).tr (fz_sI (by decide) kzq_rf)) (fun _ _ => ?_)
              exact KZq_some kzq_rf
            · skip
              refine KZq_if ?_ ?_
              · skip
                refine KZq_bn (kz_F_leaves.tr (fz_sI (by decide) kzq_rf)) (fun _ _ => ?_)
                exact KZq_some kzq_rf
              · skip
                refine KZq_if ?_ ?_
                · skip
                  refine KZq_bn (kz_F_leaves.tr (fz_sI (by decide) kzq_rf)) (fun _ _ => ?_)
                  exact KZq_some kzq_rf
                · skip
                  refine KZq_if ?_ ?_
                  · skip
                    refine KZq_bn (kz_F_returns.tr (fz_sI (by decide) kzq_rf)) (fun _ _ => ?_)
                    exact KZq_some kzq_rf
                  · skip
                    refine KZq_bn (kz_G_expression.tr (fz_sI (by decide) kzq_rf)) (fun _ _ => ?_)
                    refine KZq_bn (kz_F_emit.tr kzq_rf) (fun _ _ => ?_)
                    refine KZq_bn (kz_F_take.tr kzq_rf) (fun _ _ => ?_)
                    exact KZq_some kzq_rf
theorem kz_B_stat_61 {N : Nat} {ro : Nat → Int32 → Int32 → RSt → Option (Int32 × RSt)} {l1 : Int32} {l2 : Int32} {u : RSt} (h_ro : ∀ q a b u, KZq (ro q a b u) u) : KZq (B_stat_61 N ro l1 l2 u) u := by
  unfold B_stat_61
  exact (kz_B_stat_66 h_ro).tr kzq_rf
theorem kz_B_stat_65 {N : Nat} {ro : Nat → Int32 → Int32 → RSt → Option (Int32 × RSt)} {l1 : Int32} {l2 : Int32} {u : RSt} (h_ro : ∀ q a b u, KZq (ro q a b u) u) : KZq (B_stat_65 N ro l1 l2 u) u := by
  unfold B_stat_65
  exact (kz_B_stat_66 h_ro).tr kzq_rf
theorem kz_B_stat_0 {N : Nat} {ro : Nat → Int32 → Int32 → RSt → Option (Int32 × RSt)} {u : RSt} (h_ro : ∀ q a b u, KZq (ro q a b u) u) : KZq (B_stat_0 N ro u) u := by
  unfold B_stat_0
  refine KZq_rd (fun _ => ?_)
  refine KZq_rd (fun _ => ?_)
  refine KZq_if ?_ ?_
  · skip
    exact (kz_B_stat_61 h_ro).tr kzq_rf
  · skip
    refine KZq_if ?_ ?_
    · skip
      exact (kz_B_stat_65 h_ro).tr kzq_rf
    · skip
      refine KZq_if ?_ ?_
      · skip
        exact (kz_B_stat_65 h_ro).tr kzq_rf
      · skip
        refine KZq_if ?_ ?_
        · skip
          exact (kz_B_stat_65 h_ro).tr kzq_rf
        · skip
          refine KZq_if ?_ ?_
          · skip
            exact (kz_B_stat_65 h_ro).tr kzq_rf
          · skip
            refine KZq_if ?_ ?_
            · skip
              exact (kz_B_stat_65 h_ro).tr kzq_rf
            · skip
              refine KZq_if ?_ ?_
              · skip
                exact (kz_B_stat_65 h_ro).tr kzq_rf
              · skip
                exact (kz_B_stat_61 h_ro).tr kzq_rf
theorem kz_F_stat {N : Nat} {ro : Nat → Int32 → Int32 → RSt → Option (Int32 × RSt)} {u : RSt} (h_ro : ∀ q a b u, KZq (ro q a b u) u) : KZq (F_stat N ro u) u := by
  unfold F_stat
  exact (kz_B_stat_0 h_ro).tr kzq_rf
theorem kz_B_choice_120 {N : Nat} {ro : Nat → Int32 → Int32 → RSt → Option (Int32 × RSt)} {l3 : Int32} {u : RSt} (h_ro : ∀ q a b u, KZq (ro q a b u) u) : KZq (B_choice_120 N ro l3 u) u := by
  unfold B_choice_120
  refine KZq_bn (kz_F_leadAll.tr kzq_rf) (fun _ _ => ?_)
  exact KZq_some kzq_rf
theorem kz_B_choice_110 {N : Nat} {ro : Nat → Int32 → Int32 → RSt → Option (Int32 × RSt)} {l2 : Int32} {l3 : Int32} {u : RSt} (h_ro : ∀ q a b u, KZq (ro q a b u) u) : KZq (B_choice_110 N ro l2 l3 u) u := by
  unfold B_choice_110
  refine KZq_if ?_ ?_
  · skip
    exact (kz_B_choice_120 h_ro).tr kzq_rf
  · skip
    refine KZq_bn (kz_F_lead.tr kzq_rf) (fun _ _ => ?_)
    exact (kz_B_choice_120 h_ro).tr kzq_rf
theorem kz_B_choice_95 {N : Nat} {ro : Nat → Int32 → Int32 → RSt → Option (Int32 × RSt)} {R_20 : Int32 × Int32 × RSt → Option (Int32 × RSt)} {l2 : Int32} {l3 : Int32} {l4 : Int32} {u : RSt} (h_ro : ∀ q a b u, KZq (ro q a b u) u) (h_R_20 : ∀ a, KZq (R_20 a) a.2.2) : KZq (B_choice_95 N ro R_20 l2 l3 l4 u) u := by
  unfold B_choice_95
  refine KZq_bn ((h_ro _ _ _ _).tr kzq_rf) (fun _ _ => ?_)
  refine KZq_if ?_ ?_
  · skip
    exact (h_R_20 _).tr kzq_rf
  · skip
    exact (kz_B_choice_110 h_ro).tr kzq_rf
theorem kz_B_choice_38 {N : Nat} {ro : Nat → Int32 → Int32 → RSt → Option (Int32 × RSt)} {R_20 : Int32 × Int32 × RSt → Option (Int32 × RSt)} {l2 : Int32} {l3 : Int32} {u : RSt} (h_ro : ∀ q a b u, KZq (ro q a b u) u) (h_R_20 : ∀ a, KZq (R_20 a) a.2.2) : KZq (B_choice_38 N ro R_20 l2 l3 u) u := by
  unfold B_choice_38
  refine KZq_bn (kz_F_is.tr kzq_rf) (fun _ _ => ?_)
  refine KZq_bn (kz_F_emit.tr kzq_rf) (fun _ _ => ?_)
  refine KZq_bn (kz_F_lead.tr kzq_rf) (fun _ _ => ?_)
  refine KZq_pu ?_
  refine KZq_if ?_ ?_
  · skip
    refine KZq_bn (kz_G_expression.tr (fz_sI (by decide) kzq_rf)) (fun _ _ => ?_)
    refine KZq_bn (kz_F_emit.tr kzq_rf) (fun _ _ => ?_)
    exact (kz_B_choice_95 h_ro h_R_20).tr kzq_rf
  · skip
    exact (kz_B_choice_95 h_ro h_R_20).tr (fz_sI (by decide) kzq_rf)
theorem kz_B_choice_20 {N : Nat} {ro : Nat → Int32 → Int32 → RSt → Option (Int32 × RSt)} {R_20 : Int32 × Int32 × RSt → Option (Int32 × RSt)} {l2 : Int32} {l3 : Int32} {u : RSt} (h_ro : ∀ q a b u, KZq (ro q a b u) u) (h_R_20 : ∀ a, KZq (R_20 a) a.2.2) : KZq (B_choice_20 N ro R_20 l2 l3 u) u := by
  unfold B_choice_20
  refine KZq_bn (kz_F_is.tr kzq_rf) (fun _ _ => ?_)
  refine KZq_if ?_ ?_
  · skip
    refine KZq_bn (kz_F_is.tr kzq_rf) (fun _ _ => ?_)
    refine KZq_if ?_ ?_
    · skip
      exact (kz_B_choice_110 h_ro).tr kzq_rf
    · skip
      exact (kz_B_choice_38 h_ro h_R_20).tr kzq_rf
  · skip
    exact (kz_B_choice_38 h_ro h_R_20).tr kzq_rf
theorem kz_LP_choice_20 {N : Nat} {ro : Nat → Int32 → Int32 → RSt → Option (Int32 × RSt)} (h_ro : ∀ q a b u, KZq (ro q a b u) u) (n : Nat) : ∀ a : Int32 × Int32 × RSt, KZq (LP_choice_20 N ro n a) a.2.2 := by
  induction n with
  | zero => exact fun a r z e => by have e : (none : Option _) = some (r, z) := e; cases e
  | succ n ih =>
    intro a
    show KZq (B_choice_20 N ro (LP_choice_20 N ro n) a.1 a.2.1 a.2.2) a.2.2
    exact kz_B_choice_20 h_ro ih
theorem kz_B_choice_0 {N : Nat} {ro : Nat → Int32 → Int32 → RSt → Option (Int32 × RSt)} {u : RSt} (h_ro : ∀ q a b u, KZq (ro q a b u) u) : KZq (B_choice_0 N ro u) u := by
  unfold B_choice_0
  refine KZq_bn (kz_G_expression.tr kzq_rf) (fun _ _ => ?_)
  refine KZq_bn (kz_F_emit.tr kzq_rf) (fun _ _ => ?_)
  refine KZq_bn ((h_ro _ _ _ _).tr kzq_rf) (fun _ _ => ?_)
  exact (kz_LP_choice_20 h_ro _ _).tr kzq_rf
theorem kz_F_choice {N : Nat} {ro : Nat → Int32 → Int32 → RSt → Option (Int32 × RSt)} {u : RSt} (h_ro : ∀ q a b u, KZq (ro q a b u) u) : KZq (F_choice N ro u) u := by
  unfold F_choice
  exact (kz_B_choice_0 h_ro).tr kzq_rf
theorem kz_B_again_0 {N : Nat} {ro : Nat → Int32 → Int32 → RSt → Option (Int32 × RSt)} {l1 : Int32} {u : RSt} (h_ro : ∀ q a b u, KZq (ro q a b u) u) : KZq (B_again_0 N ro l1 u) u := by
  unfold B_again_0
  refine KZq_bn (kz_F_here.tr kzq_rf) (fun _ _ => ?_)
  refine KZq_bn (kz_G_expression.tr kzq_rf) (fun _ _ => ?_)
  refine KZq_bn (kz_F_emit.tr kzq_rf) (fun _ _ => ?_)
  refine KZq_bn (kz_F_cost.tr kzq_rf) (fun _ _ => ?_)
  refine KZq_bn (kz_F_loop.tr kzq_rf) (fun _ _ => ?_)
  refine KZq_bn ((h_ro _ _ _ _).tr kzq_rf) (fun _ _ => ?_)
  refine KZq_pu ?_
  refine KZq_rd (fun _ => ?_)
  refine KZq_bn (kz_F_leadAll.tr (fz_sI (by decide) kzq_rf)) (fun _ _ => ?_)
  refine KZq_bn (kz_F_emit.tr kzq_rf) (fun _ _ => ?_)
  refine KZq_bn (kz_F_lead.tr kzq_rf) (fun _ _ => ?_)
  refine KZq_rd (fun _ => ?_)
  refine KZq_bn (kz_F_leadAll.tr kzq_rf) (fun _ _ => ?_)
  exact KZq_some kzq_rf
theorem kz_F_again {N : Nat} {ro : Nat → Int32 → Int32 → RSt → Option (Int32 × RSt)} {l1 : Int32} {u : RSt} (h_ro : ∀ q a b u, KZq (ro q a b u) u) : KZq (F_again N ro l1 u) u := by
  unfold F_again
  exact (kz_B_again_0 h_ro).tr kzq_rf
theorem kz_B_counts_279 {N : Nat} {ro : Nat → Int32 → Int32 → RSt → Option (Int32 × RSt)} {l1 : Int32} {l7 : Int32} {l8 : Int32} {s0 : Int32} {u : RSt} (h_ro : ∀ q a b u, KZq (ro q a b u) u) : KZq (B_counts_279 N ro l1 l7 l8 s0 u) u := by
  unfold B_counts_279
  refine KZq_pu ?_
  refine KZq_rd (fun _ => ?_)
  refine KZq_bn (kz_F_take.tr (fz_sI (by decide) kzq_rf)) (fun _ _ => ?_)
  refine KZq_bn (kz_F_emit.tr kzq_rf) (fun _ _ => ?_)
  refine KZq_bn (kz_G_expression.tr kzq_rf) (fun _ _ => ?_)
  refine KZq_bn (kz_F_isTooWide.tr kzq_rf) (fun _ _ => ?_)
  refine KZq_bn (kz_F_wrong.tr kzq_rf) (fun _ _ => ?_)
  refine KZq_bn (kz_F_emit.tr kzq_rf) (fun _ _ => ?_)
  refine KZq_bn (kz_F_take.tr kzq_rf) (fun _ _ => ?_)
  refine KZq_bn (kz_G_expression.tr kzq_rf) (fun _ _ => ?_)
  refine KZq_bn (kz_F_here.tr kzq_rf) (fun _ _ => ?_)
  refine KZq_bn (kz_F_emit.tr kzq_rf) (fun _ _ => ?_)
  refine KZq_bn (kz_F_emit.tr kzq_rf) (fun _ _ => ?_)
  refine KZq_bn (kz_F_emit.tr kzq_rf) (fun _ _ => ?_)
  refine KZq_bn (kz_F_cost.tr kzq_rf) (fun _ _ => ?_)
  refine KZq_bn (kz_F_loop.tr kzq_rf) (fun _ _ => ?_)
  refine KZq_bn ((h_ro _ _ _ _).tr kzq_rf) (fun _ _ => ?_)
  refine KZq_pu ?_
  refine KZq_rd (fun _ => ?_)
  refine KZq_bn (kz_F_leadAll.tr (fz_sI (by decide) kzq_rf)) (fun _ _ => ?_)
  refine KZq_bn (kz_F_emit.tr kzq_rf) (fun _ _ => ?_)
  refine KZq_bn (kz_F_emit.tr kzq_rf) (fun _ _ => ?_)
  refine KZq_bn (kz_F_emit.tr kzq_rf) (fun _ _ => ?_)
  refine KZq_bn (kz_F_emit.tr kzq_rf) (fun _ _ => ?_)
  refine KZq_bn (kz_F_emit.tr kzq_rf) (fun _ _ => ?_)
  refine KZq_bn (kz_F_push.tr kzq_rf) (fun _ _ => ?_)
  refine KZq_bn (kz_F_joined.tr kzq_rf) (fun _ _ => ?_)
  refine KZq_bn (kz_F_emit.tr kzq_rf) (fun _ _ => ?_)
  refine KZq_bn (kz_F_emit.tr kzq_rf) (fun _ _ => ?_)
  refine KZq_bn (kz_F_lead.tr kzq_rf) (fun _ _ => ?_)
  refine KZq_bn (kz_F_lead.tr kzq_rf) (fun _ _ => ?_)
  refine KZq_rd (fun _ => ?_)
  refine KZq_bn (kz_F_leadAll.tr kzq_rf) (fun _ _ => ?_)
  refine KZq_bn (kz_F_emit.tr kzq_rf) (fun _ _ => ?_)
  exact KZq_some kzq_rf
theorem kz_B_counts_247 {N : Nat} {ro : Nat → Int32 → Int32 → RSt → Option (Int32 × RSt)} {l1 : Int32} {l3 : Int32} {l5 : Int32} {l6 : Int32} {l7 : Int32} {s0 : Int32} {u : RSt} (h_ro : ∀ q a b u, KZq (ro q a b u) u) : KZq (B_counts_247 N ro l1 l3 l5 l6 l7 s0 u) u := by
  unfold B_counts_247
  refine KZq_if ?_ ?_
  · skip
    exact (kz_B_counts_279 h_ro).tr kzq_rf
  · skip
    refine KZq_if ?_ ?_
    · skip
      refine KZq_rd (fun _ => ?_)
      exact (kz_B_counts_279 h_ro).tr kzq_rf
    · skip
      refine KZq_rd (fun _ => ?_)
      exact (kz_B_counts_279 h_ro).tr kzq_rf
theorem kz_B_counts_220 {N : Nat} {ro : Nat → Int32 → Int32 → RSt → Option (Int32 × RSt)} {l1 : Int32} {l3 : Int32} {l5 : Int32} {l6 : Int32} {s0 : Int32} {u : RSt} (h_ro : ∀ q a b u, KZq (ro q a b u) u) : KZq (B_counts_220 N ro l1 l3 l5 l6 s0 u) u := by
  unfold B_counts_220
  refine KZq_if ?_ ?_
  · skip
    exact (kz_B_counts_247 h_ro).tr kzq_rf
  · skip
    refine KZq_if ?_ ?_
    · skip
      exact (kz_B_counts_247 h_ro).tr kzq_rf
    · skip
      exact (kz_B_counts_247 h_ro).tr kzq_rf
theorem kz_B_counts_185 {N : Nat} {ro : Nat → Int32 → Int32 → RSt → Option (Int32 × RSt)} {l1 : Int32} {l2 : Int32} {l3 : Int32} {l5 : Int32} {l6 : Int32} {s1 : Int32} {u : RSt} (h_ro : ∀ q a b u, KZq (ro q a b u) u) : KZq (B_counts_185 N ro l1 l2 l3 l5 l6 s1 u) u := by
  unfold B_counts_185
  refine KZq_bn (kz_F_wrong.tr kzq_rf) (fun _ _ => ?_)
  refine KZq_if ?_ ?_
  · skip
    exact (kz_B_counts_220 h_ro).tr kzq_rf
  · skip
    refine KZq_if ?_ ?_
    · skip
      refine KZq_rd (fun _ => ?_)
      exact (kz_B_counts_220 h_ro).tr kzq_rf
    · skip
      refine KZq_rd (fun _ => ?_)
      exact (kz_B_counts_220 h_ro).tr kzq_rf
theorem kz_B_counts_180 {N : Nat} {ro : Nat → Int32 → Int32 → RSt → Option (Int32 × RSt)} {l1 : Int32} {l2 : Int32} {l3 : Int32} {l5 : Int32} {l6 : Int32} {u : RSt} (h_ro : ∀ q a b u, KZq (ro q a b u) u) : KZq (B_counts_180 N ro l1 l2 l3 l5 l6 u) u := by
  unfold B_counts_180
  exact (kz_B_counts_185 h_ro).tr kzq_rf
theorem kz_B_counts_184 {N : Nat} {ro : Nat → Int32 → Int32 → RSt → Option (Int32 × RSt)} {l1 : Int32} {l2 : Int32} {l3 : Int32} {l5 : Int32} {l6 : Int32} {u : RSt} (h_ro : ∀ q a b u, KZq (ro q a b u) u) : KZq (B_counts_184 N ro l1 l2 l3 l5 l6 u) u := by
  unfold B_counts_184
  exact (kz_B_counts_185 h_ro).tr kzq_rf
theorem kz_B_counts_121 {N : Nat} {ro : Nat → Int32 → Int32 → RSt → Option (Int32 × RSt)} {l1 : Int32} {l2 : Int32} {l3 : Int32} {l4 : Int32} {s0 : Int32} {u : RSt} (h_ro : ∀ q a b u, KZq (ro q a b u) u) : KZq (B_counts_121 N ro l1 l2 l3 l4 s0 u) u := by
  unfold B_counts_121
  refine KZq_if ?_ ?_
  · skip
    exact (kz_B_counts_184 h_ro).tr kzq_rf
  · skip
    refine KZq_if ?_ ?_
    · skip
      refine KZq_rd (fun _ => ?_)
      refine KZq_if ?_ ?_
      · skip
        refine KZq_rd (fun _ => ?_)
        refine KZq_if ?_ ?_
        · skip
          exact (kz_B_counts_180 h_ro).tr kzq_rf
        · skip
          exact (kz_B_counts_184 h_ro).tr kzq_rf
      · skip
        exact (kz_B_counts_180 h_ro).tr kzq_rf
    · skip
      refine KZq_rd (fun _ => ?_)
      refine KZq_if ?_ ?_
      · skip
        exact (kz_B_counts_184 h_ro).tr kzq_rf
      · skip
        exact (kz_B_counts_180 h_ro).tr kzq_rf
theorem kz_B_counts_120 {N : Nat} {ro : Nat → Int32 → Int32 → RSt → Option (Int32 × RSt)} {l1 : Int32} {l2 : Int32} {l3 : Int32} {l4 : Int32} {u : RSt} (h_ro : ∀ q a b u, KZq (ro q a b u) u) : KZq (B_counts_120 N ro l1 l2 l3 l4 u) u := by
  unfold B_counts_120
  exact (kz_B_counts_121 h_ro).tr kzq_rf
theorem kz_B_counts_97 {N : Nat} {ro : Nat → Int32 → Int32 → RSt → Option (Int32 × RSt)} {l1 : Int32} {l2 : Int32} {l3 : Int32} {l4 : Int32} {s1 : Int32} {u : RSt} (h_ro : ∀ q a b u, KZq (ro q a b u) u) : KZq (B_counts_97 N ro l1 l2 l3 l4 s1 u) u := by
  unfold B_counts_97
  refine KZq_bn (kz_F_wrong.tr kzq_rf) (fun _ _ => ?_)
  refine KZq_if ?_ ?_
  · skip
    exact (kz_B_counts_120 h_ro).tr kzq_rf
  · skip
    refine KZq_if ?_ ?_
    · skip
      exact (kz_B_counts_121 h_ro).tr kzq_rf
    · skip
      exact (kz_B_counts_120 h_ro).tr kzq_rf
theorem kz_B_counts_96 {N : Nat} {ro : Nat → Int32 → Int32 → RSt → Option (Int32 × RSt)} {l1 : Int32} {l2 : Int32} {l3 : Int32} {l4 : Int32} {u : RSt} (h_ro : ∀ q a b u, KZq (ro q a b u) u) : KZq (B_counts_96 N ro l1 l2 l3 l4 u) u := by
  unfold B_counts_96
  exact (kz_B_counts_97 h_ro).tr kzq_rf
theorem kz_B_counts_78 {N : Nat} {ro : Nat → Int32 → Int32 → RSt → Option (Int32 × RSt)} {l1 : Int32} {l2 : Int32} {l3 : Int32} {s0 : Int32} {u : RSt} (h_ro : ∀ q a b u, KZq (ro q a b u) u) : KZq (B_counts_78 N ro l1 l2 l3 s0 u) u := by
  unfold B_counts_78
  refine KZq_if ?_ ?_
  · skip
    refine KZq_if ?_ ?_
    · skip
      exact (kz_B_counts_97 h_ro).tr kzq_rf
    · skip
      exact (kz_B_counts_96 h_ro).tr kzq_rf
  · skip
    exact (kz_B_counts_96 h_ro).tr kzq_rf
theorem kz_B_counts_77 {N : Nat} {ro : Nat → Int32 → Int32 → RSt → Option (Int32 × RSt)} {l1 : Int32} {l2 : Int32} {l3 : Int32} {u : RSt} (h_ro : ∀ q a b u, KZq (ro q a b u) u) : KZq (B_counts_77 N ro l1 l2 l3 u) u := by
  unfold B_counts_77
  exact (kz_B_counts_78 h_ro).tr kzq_rf
theorem kz_B_counts_56 {N : Nat} {ro : Nat → Int32 → Int32 → RSt → Option (Int32 × RSt)} {l1 : Int32} {l2 : Int32} {s0 : Int32} {u : RSt} (h_ro : ∀ q a b u, KZq (ro q a b u) u) : KZq (B_counts_56 N ro l1 l2 s0 u) u := by
  unfold B_counts_56
  refine KZq_if ?_ ?_
  · skip
    refine KZq_if ?_ ?_
    · skip
      exact (kz_B_counts_77 h_ro).tr kzq_rf
    · skip
      refine KZq_bn (kz_F_own.tr kzq_rf) (fun _ _ => ?_)
      exact (kz_B_counts_78 h_ro).tr kzq_rf
  · skip
    exact (kz_B_counts_77 h_ro).tr kzq_rf
theorem kz_B_counts_0 {N : Nat} {ro : Nat → Int32 → Int32 → RSt → Option (Int32 × RSt)} {l1 : Int32} {u : RSt} (h_ro : ∀ q a b u, KZq (ro q a b u) u) : KZq (B_counts_0 N ro l1 u) u := by
  unfold B_counts_0
  refine KZq_bn (kz_F_is.tr kzq_rf) (fun _ _ => ?_)
  refine KZq_if ?_ ?_
  · skip
    refine KZq_bn (kz_F_stuck.tr kzq_rf) (fun _ _ => ?_)
    exact KZq_some kzq_rf
  · skip
    refine KZq_rd (fun _ => ?_)
    refine KZq_if ?_ ?_
    · skip
      exact (kz_B_counts_56 h_ro).tr kzq_rf
    · skip
      refine KZq_rd (fun _ => ?_)
      refine KZq_rd (fun _ => ?_)
      refine KZq_bn (kz_F_slotOf.tr kzq_rf) (fun _ _ => ?_)
      exact (kz_B_counts_56 h_ro).tr kzq_rf
theorem kz_F_counts {N : Nat} {ro : Nat → Int32 → Int32 → RSt → Option (Int32 × RSt)} {l1 : Int32} {u : RSt} (h_ro : ∀ q a b u, KZq (ro q a b u) u) : KZq (F_counts N ro l1 u) u := by
  unfold F_counts
  exact (kz_B_counts_0 h_ro).tr kzq_rf
theorem kz_B_cases_103 {N : Nat} {ro : Nat → Int32 → Int32 → RSt → Option (Int32 × RSt)} {R_14 : Int32 × RSt → Option (Int32 × RSt)} {l2 : Int32} {l4 : Int32} {u : RSt} (h_ro : ∀ q a b u, KZq (ro q a b u) u) (h_R_14 : ∀ a, KZq (R_14 a) a.2) : KZq (B_cases_103 N ro R_14 l2 l4 u) u := by
  unfold B_cases_103
  refine KZq_bn ((h_ro _ _ _ _).tr kzq_rf) (fun _ _ => ?_)
  refine KZq_bn (kz_F_emit.tr kzq_rf) (fun _ _ => ?_)
  refine KZq_bn (kz_F_lead.tr kzq_rf) (fun _ _ => ?_)
  exact (h_R_14 _).tr kzq_rf
theorem kz_B_cases_65 {N : Nat} {ro : Nat → Int32 → Int32 → RSt → Option (Int32 × RSt)} {R_14 : Int32 × RSt → Option (Int32 × RSt)} {R_65 : Int32 × Int32 × Int32 × RSt → Option (Int32 × RSt)} {l2 : Int32} {l4 : Int32} {l5 : Int32} {u : RSt} (h_ro : ∀ q a b u, KZq (ro q a b u) u) (h_R_14 : ∀ a, KZq (R_14 a) a.2) (h_R_65 : ∀ a, KZq (R_65 a) a.2.2.2) : KZq (B_cases_65 N ro R_14 R_65 l2 l4 l5 u) u := by
  unfold B_cases_65
  refine KZq_if ?_ ?_
  · skip
    exact (kz_B_cases_103 h_ro h_R_14).tr kzq_rf
  · skip
    refine KZq_if ?_ ?_
    · skip
      refine KZq_if ?_ ?_
      · skip
        exact (kz_B_cases_103 h_ro h_R_14).tr kzq_rf
      · skip
        refine KZq_bn (kz_F_here.tr kzq_rf) (fun _ _ => ?_)
        refine KZq_wr ?_
        exact (h_R_65 _).tr (fz_sA (by decide) kzq_rf)
    · skip
      exact (kz_B_cases_103 h_ro h_R_14).tr kzq_rf
theorem kz_LP_cases_65 {N : Nat} {ro : Nat → Int32 → Int32 → RSt → Option (Int32 × RSt)} {R_14 : Int32 × RSt → Option (Int32 × RSt)} (h_ro : ∀ q a b u, KZq (ro q a b u) u) (h_R_14 : ∀ a, KZq (R_14 a) a.2) (n : Nat) : ∀ a : Int32 × Int32 × Int32 × RSt, KZq (LP_cases_65 N ro R_14 n a) a.2.2.2 := by
  induction n with
  | zero => exact fun a r z e => by have e : (none : Option _) = some (r, z) := e; cases e
  | succ n ih =>
    intro a
    show KZq (B_cases_65 N ro R_14 (LP_cases_65 N ro R_14 n) a.1 a.2.1 a.2.2.1 a.2.2.2) a.2.2.2
    exact kz_B_cases_65 h_ro h_R_14 ih
theorem kz_B_cases_28 {N : Nat} {ro : Nat → Int32 → Int32 → RSt → Option (Int32 × RSt)} {R_14 : Int32 × RSt → Option (Int32 × RSt)} {R_28 : Int32 × Int32 × RSt → Option (Int32 × RSt)} {l2 : Int32} {l3 : Int32} {u : RSt} (h_ro : ∀ q a b u, KZq (ro q a b u) u) (h_R_14 : ∀ a, KZq (R_14 a) a.2) (h_R_28 : ∀ a, KZq (R_28 a) a.2.2) : KZq (B_cases_28 N ro R_14 R_28 l2 l3 u) u := by
  unfold B_cases_28
  refine KZq_pu ?_
  refine KZq_bn (kz_F_label.tr (fz_sI (by decide) kzq_rf)) (fun _ _ => ?_)
  refine KZq_bn (kz_F_is.tr kzq_rf) (fun _ _ => ?_)
  refine KZq_if ?_ ?_
  · skip
    refine KZq_bn (kz_F_emit.tr kzq_rf) (fun _ _ => ?_)
    exact (kz_LP_cases_65 h_ro h_R_14 _ _).tr kzq_rf
  · skip
    exact (h_R_28 _).tr kzq_rf
theorem kz_LP_cases_28 {N : Nat} {ro : Nat → Int32 → Int32 → RSt → Option (Int32 × RSt)} {R_14 : Int32 × RSt → Option (Int32 × RSt)} (h_ro : ∀ q a b u, KZq (ro q a b u) u) (h_R_14 : ∀ a, KZq (R_14 a) a.2) (n : Nat) : ∀ a : Int32 × Int32 × RSt, KZq (LP_cases_28 N ro R_14 n a) a.2.2 := by
  induction n with
  | zero => exact fun a r z e => by have e : (none : Option _) = some (r, z) := e; cases e
  | succ n ih =>
    intro a
    show KZq (B_cases_28 N ro R_14 (LP_cases_28 N ro R_14 n) a.1 a.2.1 a.2.2) a.2.2
    exact kz_B_cases_28 h_ro h_R_14 ih
theorem kz_B_cases_151 {N : Nat} {ro : Nat → Int32 → Int32 → RSt → Option (Int32 × RSt)} {l2 : Int32} {u : RSt} (h_ro : ∀ q a b u, KZq (ro q a b u) u) : KZq (B_cases_151 N ro l2 u) u := by
  unfold B_cases_151
  refine KZq_bn (kz_F_ends.tr kzq_rf) (fun _ _ => ?_)
  refine KZq_bn (kz_F_leadAll.tr kzq_rf) (fun _ _ => ?_)
  exact KZq_some kzq_rf
theorem kz_B_cases_14 {N : Nat} {ro : Nat → Int32 → Int32 → RSt → Option (Int32 × RSt)} {R_14 : Int32 × RSt → Option (Int32 × RSt)} {l2 : Int32} {u : RSt} (h_ro : ∀ q a b u, KZq (ro q a b u) u) (h_R_14 : ∀ a, KZq (R_14 a) a.2) : KZq (B_cases_14 N ro R_14 l2 u) u := by
  unfold B_cases_14
  refine KZq_bn (kz_F_is.tr kzq_rf) (fun _ _ => ?_)
  refine KZq_if ?_ ?_
  · skip
    refine KZq_bn (kz_F_emit.tr kzq_rf) (fun _ _ => ?_)
    refine KZq_bn (kz_F_has.tr kzq_rf) (fun _ _ => ?_)
    refine KZq_if ?_ ?_
    · skip
      exact (kz_B_cases_151 h_ro).tr kzq_rf
    · skip
      refine KZq_bn ((h_ro _ _ _ _).tr kzq_rf) (fun _ _ => ?_)
      exact (kz_B_cases_151 h_ro).tr kzq_rf
  · skip
    refine KZq_bn (kz_F_here.tr kzq_rf) (fun _ _ => ?_)
    exact (kz_LP_cases_28 h_ro h_R_14 _ _).tr kzq_rf
theorem kz_LP_cases_14 {N : Nat} {ro : Nat → Int32 → Int32 → RSt → Option (Int32 × RSt)} (h_ro : ∀ q a b u, KZq (ro q a b u) u) (n : Nat) : ∀ a : Int32 × RSt, KZq (LP_cases_14 N ro n a) a.2 := by
  induction n with
  | zero => exact fun a r z e => by have e : (none : Option _) = some (r, z) := e; cases e
  | succ n ih =>
    intro a
    show KZq (B_cases_14 N ro (LP_cases_14 N ro n) a.1 a.2) a.2
    exact kz_B_cases_14 h_ro ih
theorem kz_B_cases_0 {N : Nat} {ro : Nat → Int32 → Int32 → RSt → Option (Int32 × RSt)} {u : RSt} (h_ro : ∀ q a b u, KZq (ro q a b u) u) : KZq (B_cases_0 N ro u) u := by
  unfold B_cases_0
  refine KZq_bn (kz_G_expression.tr kzq_rf) (fun _ _ => ?_)
  refine KZq_bn (kz_F_begins.tr kzq_rf) (fun _ _ => ?_)
  exact (kz_LP_cases_14 h_ro _ _).tr kzq_rf
theorem kz_F_cases {N : Nat} {ro : Nat → Int32 → Int32 → RSt → Option (Int32 × RSt)} {u : RSt} (h_ro : ∀ q a b u, KZq (ro q a b u) u) : KZq (F_cases N ro u) u := by
  unfold F_cases
  exact (kz_B_cases_0 h_ro).tr kzq_rf
theorem kz_FS_ {N : Nat} : ∀ (d q : Nat) (a b : Int32) (u : RSt), KZq (FS_ N d q a b u) u := by
  intro d
  induction d with
  | zero => exact fun q a b u => KZq_none
  | succ d ih =>
    intro q a b u
    show KZq (if q = 0 then F_body N (FS_ N d) u else if q = 1 then F_stat N (FS_ N d) u else if q = 2 then F_choice N (FS_ N d) u else if q = 3 then F_again N (FS_ N d) a u else if q = 4 then F_counts N (FS_ N d) a u else if q = 5 then F_cases N (FS_ N d) u else none) u
    refine KZq_if (kz_F_body ih) ?_
    refine KZq_if (kz_F_stat ih) ?_
    refine KZq_if (kz_F_choice ih) ?_
    refine KZq_if (kz_F_again ih) ?_
    refine KZq_if (kz_F_counts ih) ?_
    refine KZq_if (kz_F_cases ih) ?_
    exact KZq_none
theorem kz_G_body {N : Nat} {u : RSt} : KZq (G_body N u) u := kz_FS_ _ _ _ _ _
theorem kz_G_stat {N : Nat} {u : RSt} : KZq (G_stat N u) u := kz_FS_ _ _ _ _ _
theorem kz_B_one_150 {N : Nat} {l1 : Int32} {l2 : Int32} {l3 : Int32} {l4 : Int32} {l5 : Int32} {l6 : Int32} {l7 : Int64} {u : RSt}  : KZq (B_one_150 N l1 l2 l3 l4 l5 l6 l7 u) u := by
  unfold B_one_150
  refine KZq_if ?_ ?_
  · skip
    refine KZq_bn (kz_F_addVariable.tr kzq_rf) (fun _ _ => ?_)
    exact KZq_some kzq_rf
  · skip
    refine KZq_bn (kz_F_addSlot.tr kzq_rf) (fun _ _ => ?_)
    exact KZq_some kzq_rf
theorem kz_B_one_135 {N : Nat} {l1 : Int32} {l2 : Int32} {l3 : Int32} {l4 : Int32} {l5 : Int32} {l6 : Int32} {l7 : Int64} {s1 : Int32} {u : RSt}  : KZq (B_one_135 N l1 l2 l3 l4 l5 l6 l7 s1 u) u := by
  unfold B_one_135
  refine KZq_rd (fun _ => ?_)
  refine KZq_bn (kz_F_wrong.tr kzq_rf) (fun _ _ => ?_)
  exact kz_B_one_150.tr kzq_rf
theorem kz_B_one_97 {N : Nat} {l1 : Int32} {l2 : Int32} {l3 : Int32} {l4 : Int32} {l5 : Int32} {l6 : Int32} {u : RSt}  : KZq (B_one_97 N l1 l2 l3 l4 l5 l6 u) u := by
  unfold B_one_97
  refine KZq_bn (kz_F_has.tr kzq_rf) (fun _ _ => ?_)
  refine KZq_if ?_ ?_
  · skip
    exact kz_B_one_150.tr kzq_rf
  · skip
    refine KZq_bn (kz_F_constant.tr kzq_rf) (fun _ _ => ?_)
    refine KZq_if ?_ ?_
    · skip
      exact kz_B_one_135.tr kzq_rf
    · skip
      exact kz_B_one_135.tr kzq_rf
theorem kz_B_one_46 {N : Nat} {l1 : Int32} {l2 : Int32} {l3 : Int32} {l4 : Int32} {u : RSt}  : KZq (B_one_46 N l1 l2 l3 l4 u) u := by
  unfold B_one_46
  refine KZq_pu ?_
  refine KZq_bn (kz_F_is.tr (fz_sI (by decide) kzq_rf)) (fun _ _ => ?_)
  refine KZq_if ?_ ?_
  · skip
    exact kz_B_one_97.tr kzq_rf
  · skip
    refine KZq_bn (kz_F_begins.tr kzq_rf) (fun _ _ => ?_)
    refine KZq_bn (kz_F_bounded.tr kzq_rf) (fun _ _ => ?_)
    refine KZq_bn (kz_F_ends.tr kzq_rf) (fun _ _ => ?_)
    exact kz_B_one_97.tr kzq_rf
theorem kz_B_one_0 {N : Nat} {l1 : Int32} {l2 : Int32} {l3 : Int32} {u : RSt}  : KZq (B_one_0 N l1 l2 l3 u) u := by
  unfold B_one_0
  refine KZq_bn (kz_F_is.tr kzq_rf) (fun _ _ => ?_)
  refine KZq_if ?_ ?_
  · skip
    refine KZq_bn (kz_F_stuck.tr kzq_rf) (fun _ _ => ?_)
    exact KZq_some kzq_rf
  · skip
    refine KZq_if ?_ ?_
    · skip
      refine KZq_rd (fun _ => ?_)
      refine KZq_bn (kz_F_telling.tr kzq_rf) (fun _ _ => ?_)
      exact kz_B_one_46.tr kzq_rf
    · skip
      refine KZq_bn (kz_F_local.tr kzq_rf) (fun _ _ => ?_)
      exact kz_B_one_46.tr kzq_rf
theorem kz_F_one {N : Nat} {l1 : Int32} {l2 : Int32} {l3 : Int32} {u : RSt}  : KZq (F_one N l1 l2 l3 u) u := by
  unfold F_one
  exact kz_B_one_0.tr kzq_rf
theorem kz_B_variables_22 {N : Nat} {R_22 : Int32 × Int32 × Int32 × RSt → Option (Int32 × RSt)} {l1 : Int32} {l2 : Int32} {l3 : Int32} {u : RSt} (h_R_22 : ∀ a, KZq (R_22 a) a.2.2.2) : KZq (B_variables_22 N R_22 l1 l2 l3 u) u := by
  unfold B_variables_22
  refine KZq_bn (kz_F_has.tr kzq_rf) (fun _ _ => ?_)
  refine KZq_if ?_ ?_
  · skip
    refine KZq_bn (kz_F_take.tr kzq_rf) (fun _ _ => ?_)
    exact KZq_some kzq_rf
  · skip
    refine KZq_bn (kz_F_one.tr kzq_rf) (fun _ _ => ?_)
    exact (h_R_22 _).tr kzq_rf
theorem kz_LP_variables_22 {N : Nat}  (n : Nat) : ∀ a : Int32 × Int32 × Int32 × RSt, KZq (LP_variables_22 N n a) a.2.2.2 := by
  induction n with
  | zero => exact fun a r z e => by have e : (none : Option _) = some (r, z) := e; cases e
  | succ n ih =>
    intro a
    show KZq (B_variables_22 N (LP_variables_22 N n) a.1 a.2.1 a.2.2.1 a.2.2.2) a.2.2.2
    exact kz_B_variables_22 ih
theorem kz_B_variables_0 {N : Nat} {l1 : Int32} {l2 : Int32} {u : RSt}  : KZq (B_variables_0 N l1 l2 u) u := by
  unfold B_variables_0
  refine KZq_pu ?_
  refine KZq_bn (kz_F_kind.tr (fz_sI (by decide) kzq_rf)) (fun _ _ => ?_)
  refine KZq_bn (kz_F_one.tr kzq_rf) (fun _ _ => ?_)
  exact (kz_LP_variables_22  _ _).tr kzq_rf
theorem kz_F_variables {N : Nat} {l1 : Int32} {l2 : Int32} {u : RSt}  : KZq (F_variables N l1 l2 u) u := by
  unfold F_variables
  exact kz_B_variables_0.tr kzq_rf
theorem kz_B_image_0 {N : Nat} {l1 : Int32} {u : RSt}  : KZq (B_image_0 N l1 u) u := by
  unfold B_image_0
  refine KZq_pu ?_
  refine KZq_bn (kz_F_kind.tr (fz_sI (by decide) kzq_rf)) (fun _ _ => ?_)
  refine KZq_bn (kz_F_is.tr kzq_rf) (fun _ _ => ?_)
  refine KZq_if ?_ ?_
  · skip
    refine KZq_bn (kz_F_stuck.tr kzq_rf) (fun _ _ => ?_)
    exact KZq_some kzq_rf
  · skip
    refine KZq_rd (fun _ => ?_)
    refine KZq_bn (kz_F_telling.tr kzq_rf) (fun _ _ => ?_)
    refine KZq_pu ?_
    refine KZq_bn (kz_F_take.tr (fz_sI (by decide) kzq_rf)) (fun _ _ => ?_)
    refine KZq_bn (kz_F_bounded.tr kzq_rf) (fun _ _ => ?_)
    refine KZq_bn (kz_F_take.tr kzq_rf) (fun _ _ => ?_)
    refine KZq_bn (kz_F_addVariable.tr kzq_rf) (fun _ _ => ?_)
    exact KZq_some kzq_rf
theorem kz_F_image {N : Nat} {l1 : Int32} {u : RSt}  : KZq (F_image N l1 u) u := by
  unfold F_image
  exact kz_B_image_0.tr kzq_rf
theorem kz_B_parameter_62 {N : Nat} {u : RSt}  : KZq (B_parameter_62 N u) u := by
  unfold B_parameter_62
  refine KZq_pu ?_
  exact KZq_some (fz_sI (by decide) kzq_rf)
theorem kz_B_parameter_0 {N : Nat} {u : RSt}  : KZq (B_parameter_0 N u) u := by
  unfold B_parameter_0
  refine KZq_bn (kz_F_kind.tr kzq_rf) (fun _ _ => ?_)
  refine KZq_bn (kz_F_is.tr kzq_rf) (fun _ _ => ?_)
  refine KZq_if ?_ ?_
  · skip
    refine KZq_bn (kz_F_stuck.tr kzq_rf) (fun _ _ => ?_)
    exact KZq_some kzq_rf
  · skip
    refine KZq_bn (kz_F_local.tr kzq_rf) (fun _ _ => ?_)
    refine KZq_bn (kz_F_addSlot.tr kzq_rf) (fun _ _ => ?_)
    refine KZq_if ?_ ?_
    · skip
      exact kz_B_parameter_62.tr kzq_rf
    · skip
      refine KZq_if ?_ ?_
      · skip
        refine KZq_rd (fun _ => ?_)
        refine KZq_wr ?_
        exact kz_B_parameter_62.tr (fz_sA (by decide) kzq_rf)
      · skip
        exact kz_B_parameter_62.tr kzq_rf
theorem kz_F_parameter {N : Nat} {u : RSt}  : KZq (F_parameter N u) u := by
  unfold F_parameter
  exact kz_B_parameter_0.tr kzq_rf
theorem kz_B_part_438 {N : Nat} {l1 : Int32} {l2 : Int32} {u : RSt}  : KZq (B_part_438 N l1 l2 u) u := by
  unfold B_part_438
  refine KZq_bn (kz_F_ends.tr kzq_rf) (fun _ _ => ?_)
  refine KZq_if ?_ ?_
  · skip
    refine KZq_bn (kz_F_emit.tr kzq_rf) (fun _ _ => ?_)
    refine KZq_pu ?_
    exact KZq_some (fz_sI (by decide) kzq_rf)
  · skip
    refine KZq_bn (kz_F_push.tr kzq_rf) (fun _ _ => ?_)
    refine KZq_bn (kz_F_emit.tr kzq_rf) (fun _ _ => ?_)
    refine KZq_pu ?_
    exact KZq_some (fz_sI (by decide) kzq_rf)
theorem kz_B_part_414 {N : Nat} {R_414 : Int32 × Int32 × RSt → Option (Int32 × RSt)} {l1 : Int32} {l2 : Int32} {u : RSt} (h_R_414 : ∀ a, KZq (R_414 a) a.2.2) : KZq (B_part_414 N R_414 l1 l2 u) u := by
  unfold B_part_414
  refine KZq_if ?_ ?_
  · skip
    refine KZq_bn (kz_F_is.tr kzq_rf) (fun _ _ => ?_)
    refine KZq_if ?_ ?_
    · skip
      refine KZq_bn (kz_G_stat.tr kzq_rf) (fun _ _ => ?_)
      exact (h_R_414 _).tr kzq_rf
    · skip
      exact kz_B_part_438.tr kzq_rf
  · skip
    exact kz_B_part_438.tr kzq_rf
theorem kz_LP_part_414 {N : Nat}  (n : Nat) : ∀ a : Int32 × Int32 × RSt, KZq (LP_part_414 N n a) a.2.2 := by
  induction n with
  | zero => exact fun a r z e => by have e : (none : Option _) = some (r, z) := e; cases e
  | succ n ih =>
    intro a
    show KZq (B_part_414 N (LP_part_414 N n) a.1 a.2.1 a.2.2) a.2.2
    exact kz_B_part_414 ih
theorem kz_B_part_396 {N : Nat} {R_396 : Int32 × Int32 × RSt → Option (Int32 × RSt)} {l1 : Int32} {l2 : Int32} {u : RSt} (h_R_396 : ∀ a, KZq (R_396 a) a.2.2) : KZq (B_part_396 N R_396 l1 l2 u) u := by
  unfold B_part_396
  refine KZq_bn (kz_F_is.tr kzq_rf) (fun _ _ => ?_)
  refine KZq_if ?_ ?_
  · skip
    exact (kz_LP_part_414  _ _).tr kzq_rf
  · skip
    refine KZq_bn (kz_F_variables.tr kzq_rf) (fun _ _ => ?_)
    exact (h_R_396 _).tr kzq_rf
theorem kz_LP_part_396 {N : Nat}  (n : Nat) : ∀ a : Int32 × Int32 × RSt, KZq (LP_part_396 N n a) a.2.2 := by
  induction n with
  | zero => exact fun a r z e => by have e : (none : Option _) = some (r, z) := e; cases e
  | succ n ih =>
    intro a
    show KZq (B_part_396 N (LP_part_396 N n) a.1 a.2.1 a.2.2) a.2.2
    exact kz_B_part_396 ih
theorem kz_B_part_355 {N : Nat} {l1 : Int32} {l2 : Int32} {u : RSt}  : KZq (B_part_355 N l1 l2 u) u := by
  unfold B_part_355
  refine KZq_bn (kz_F_ends.tr kzq_rf) (fun _ _ => ?_)
  refine KZq_bn (kz_F_begins.tr kzq_rf) (fun _ _ => ?_)
  refine KZq_if ?_ ?_
  · skip
    exact (kz_LP_part_396  _ _).tr kzq_rf
  · skip
    refine KZq_if ?_ ?_
    · skip
      refine KZq_bn (kz_F_here.tr kzq_rf) (fun _ _ => ?_)
      refine KZq_wr ?_
      exact (kz_LP_part_396  _ _).tr (fz_sA (by decide) kzq_rf)
    · skip
      exact (kz_LP_part_396  _ _).tr kzq_rf
theorem kz_B_part_338 {N : Nat} {R_338 : Int32 × Int32 × RSt → Option (Int32 × RSt)} {l1 : Int32} {l2 : Int32} {u : RSt} (h_R_338 : ∀ a, KZq (R_338 a) a.2.2) : KZq (B_part_338 N R_338 l1 l2 u) u := by
  unfold B_part_338
  refine KZq_bn (kz_F_has.tr kzq_rf) (fun _ _ => ?_)
  refine KZq_if ?_ ?_
  · skip
    exact kz_B_part_355.tr kzq_rf
  · skip
    refine KZq_bn (kz_F_parameter.tr kzq_rf) (fun _ _ => ?_)
    exact (h_R_338 _).tr kzq_rf
theorem kz_LP_part_338 {N : Nat}  (n : Nat) : ∀ a : Int32 × Int32 × RSt, KZq (LP_part_338 N n a) a.2.2 := by
  induction n with
  | zero => exact fun a r z e => by have e : (none : Option _) = some (r, z) := e; cases e
  | succ n ih =>
    intro a
    show KZq (B_part_338 N (LP_part_338 N n) a.1 a.2.1 a.2.2) a.2.2
    exact kz_B_part_338 ih
theorem kz_B_part_300 {N : Nat} {l1 : Int32} {l2 : Int32} {u : RSt}  : KZq (B_part_300 N l1 l2 u) u := by
  unfold B_part_300
  refine KZq_pu ?_
  refine KZq_bn (kz_F_begins.tr (fz_sI (by decide) kzq_rf)) (fun _ _ => ?_)
  refine KZq_if ?_ ?_
  · skip
    refine KZq_bn (kz_F_is.tr kzq_rf) (fun _ _ => ?_)
    refine KZq_if ?_ ?_
    · skip
      refine KZq_bn (kz_F_parameter.tr kzq_rf) (fun _ _ => ?_)
      exact (kz_LP_part_338  _ _).tr kzq_rf
    · skip
      exact kz_B_part_355.tr kzq_rf
  · skip
    exact kz_B_part_355.tr kzq_rf
theorem kz_B_part_138 {N : Nat} {l1 : Int32} {l2 : Int32} {s1 : Int32} {u : RSt}  : KZq (B_part_138 N l1 l2 s1 u) u := by
  unfold B_part_138
  refine KZq_pu ?_
  refine KZq_rd (fun _ => ?_)
  refine KZq_pu ?_
  refine KZq_pu ?_
  refine KZq_pu ?_
  refine KZq_if ?_ ?_
  · skip
    exact kz_B_part_300.tr (fz_sI (by decide) (fz_sI (by decide) (fz_sI (by decide) (fz_sI (by decide) kzq_rf))))
  · skip
    refine KZq_if ?_ ?_
    · skip
      refine KZq_rd (fun _ => ?_)
      refine KZq_wr ?_
      refine KZq_rd (fun _ => ?_)
      refine KZq_wr ?_
      refine KZq_wr ?_
      refine KZq_wr ?_
      refine KZq_wr ?_
      refine KZq_wr ?_
      refine KZq_wr ?_
      refine KZq_if ?_ ?_
      · skip
        refine KZq_rd (fun _ => ?_)
        refine KZq_wr ?_
        exact kz_B_part_300.tr (fz_sA (by decide) (fz_sA (by decide) (fz_sA (by decide) (fz_sA (by decide) (fz_sA (by decide) (fz_sA (by decide) (fz_sB (by decide) (fz_sB (by decide) (fz_sI (by decide) (fz_sI (by decide) (fz_sI (by decide) (fz_sI (by decide) kzq_rf))))))))))))
      · skip
        refine KZq_rd (fun _ => ?_)
        refine KZq_wr ?_
        exact kz_B_part_300.tr (fz_sA (by decide) (fz_sA (by decide) (fz_sA (by decide) (fz_sA (by decide) (fz_sA (by decide) (fz_sA (by decide) (fz_sB (by decide) (fz_sB (by decide) (fz_sI (by decide) (fz_sI (by decide) (fz_sI (by decide) (fz_sI (by decide) kzq_rf))))))))))))
    · skip
      exact kz_B_part_300.tr (fz_sI (by decide) (fz_sI (by decide) (fz_sI (by decide) (fz_sI (by decide) kzq_rf))))
theorem kz_B_part_125 {N : Nat} {l1 : Int32} {l2 : Int32} {s1 : Int32} {u : RSt}  : KZq (B_part_125 N l1 l2 s1 u) u := by
  unfold B_part_125
  refine KZq_pu ?_
  refine KZq_if ?_ ?_
  · skip
    exact kz_B_part_138.tr (fz_sI (by decide) kzq_rf)
  · skip
    exact kz_B_part_138.tr (fz_sI (by decide) kzq_rf)
theorem kz_B_part_93 {N : Nat} {l1 : Int32} {l2 : Int32} {l3 : Int32} {s1 : Int32} {s2 : Int32} {s3 : Int32} {u : RSt}  : KZq (B_part_93 N l1 l2 l3 s1 s2 s3 u) u := by
  unfold B_part_93
  refine KZq_bn (kz_F_telling.tr kzq_rf) (fun _ _ => ?_)
  refine KZq_if ?_ ?_
  · skip
    exact kz_B_part_125.tr kzq_rf
  · skip
    exact kz_B_part_125.tr kzq_rf
theorem kz_B_part_85 {N : Nat} {l1 : Int32} {l2 : Int32} {l3 : Int32} {s1 : Int32} {s2 : Int32} {s3 : Int32} {s4 : Int32} {u : RSt}  : KZq (B_part_85 N l1 l2 l3 s1 s2 s3 s4 u) u := by
  unfold B_part_85
  refine KZq_if ?_ ?_
  · skip
    exact kz_B_part_93.tr kzq_rf
  · skip
    exact kz_B_part_93.tr kzq_rf
theorem kz_B_part_72 {N : Nat} {l1 : Int32} {l2 : Int32} {l3 : Int32} {s1 : Int32} {u : RSt}  : KZq (B_part_72 N l1 l2 l3 s1 u) u := by
  unfold B_part_72
  refine KZq_if ?_ ?_
  · skip
    exact kz_B_part_85.tr kzq_rf
  · skip
    exact kz_B_part_85.tr kzq_rf
theorem kz_B_part_61 {N : Nat} {l1 : Int32} {l2 : Int32} {s0 : Int32} {u : RSt}  : KZq (B_part_61 N l1 l2 s0 u) u := by
  unfold B_part_61
  refine KZq_if ?_ ?_
  · skip
    exact kz_B_part_72.tr kzq_rf
  · skip
    exact kz_B_part_72.tr kzq_rf
theorem kz_B_part_22 {N : Nat} {l1 : Int32} {s0 : Int32} {u : RSt}  : KZq (B_part_22 N l1 s0 u) u := by
  unfold B_part_22
  refine KZq_bn (kz_F_is.tr kzq_rf) (fun _ _ => ?_)
  refine KZq_if ?_ ?_
  · skip
    refine KZq_bn (kz_F_stuck.tr kzq_rf) (fun _ _ => ?_)
    exact KZq_some kzq_rf
  · skip
    refine KZq_if ?_ ?_
    · skip
      refine KZq_rd (fun _ => ?_)
      exact kz_B_part_61.tr kzq_rf
    · skip
      refine KZq_rd (fun _ => ?_)
      exact kz_B_part_61.tr kzq_rf
theorem kz_B_part_0 {N : Nat} {l1 : Int32} {u : RSt}  : KZq (B_part_0 N l1 u) u := by
  unfold B_part_0
  refine KZq_pu ?_
  refine KZq_if ?_ ?_
  · skip
    exact kz_B_part_22.tr (fz_sI (by decide) kzq_rf)
  · skip
    refine KZq_bn (kz_F_kind.tr (fz_sI (by decide) kzq_rf)) (fun _ _ => ?_)
    exact kz_B_part_22.tr kzq_rf
theorem kz_F_part {N : Nat} {l1 : Int32} {u : RSt}  : KZq (F_part N l1 u) u := by
  unfold F_part
  exact kz_B_part_0.tr kzq_rf
theorem kz_B_instance_158 {N : Nat} {R_50 : Int32 × Int32 × Int32 × RSt → Option (Int32 × RSt)} {l1 : Int32} {l3 : Int32} {s0 : Int32} {u : RSt} (h_R_50 : ∀ a, KZq (R_50 a) a.2.2.2) : KZq (B_instance_158 N R_50 l1 l3 s0 u) u := by
  unfold B_instance_158
  exact (h_R_50 _).tr kzq_rf
theorem kz_B_instance_153 {N : Nat} {R_50 : Int32 × Int32 × Int32 × RSt → Option (Int32 × RSt)} {l1 : Int32} {l3 : Int32} {u : RSt} (h_R_50 : ∀ a, KZq (R_50 a) a.2.2.2) : KZq (B_instance_153 N R_50 l1 l3 u) u := by
  unfold B_instance_153
  exact (kz_B_instance_158 h_R_50).tr kzq_rf
theorem kz_B_instance_303 {N : Nat} {u : RSt}  : KZq (B_instance_303 N u) u := by
  unfold B_instance_303
  refine KZq_pu ?_
  exact KZq_some (fz_sI (by decide) kzq_rf)
theorem kz_B_instance_165 {N : Nat} {l1 : Int32} {l2 : Int32} {u : RSt}  : KZq (B_instance_165 N l1 l2 u) u := by
  unfold B_instance_165
  refine KZq_rd (fun _ => ?_)
  refine KZq_bn (kz_F_wrong.tr kzq_rf) (fun _ _ => ?_)
  refine KZq_if ?_ ?_
  · skip
    exact kz_B_instance_303.tr kzq_rf
  · skip
    refine KZq_if ?_ ?_
    · skip
      refine KZq_rd (fun _ => ?_)
      refine KZq_wr ?_
      refine KZq_wr ?_
      refine KZq_rd (fun _ => ?_)
      refine KZq_wr ?_
      refine KZq_rd (fun _ => ?_)
      refine KZq_wr ?_
      refine KZq_rd (fun _ => ?_)
      refine KZq_pu ?_
      refine KZq_rd (fun _ => ?_)
      refine KZq_wr ?_
      exact kz_B_instance_303.tr (fz_sA (by decide) (fz_sI (by decide) (fz_sB (by decide) (fz_sB (by decide) (fz_sA (by decide) (fz_sA (by decide) kzq_rf))))))
    · skip
      exact kz_B_instance_303.tr kzq_rf
theorem kz_B_instance_50 {N : Nat} {R_50 : Int32 × Int32 × Int32 × RSt → Option (Int32 × RSt)} {l1 : Int32} {l2 : Int32} {l3 : Int32} {u : RSt} (h_R_50 : ∀ a, KZq (R_50 a) a.2.2.2) : KZq (B_instance_50 N R_50 l1 l2 l3 u) u := by
  unfold B_instance_50
  refine KZq_if ?_ ?_
  · skip
    exact kz_B_instance_165.tr kzq_rf
  · skip
    refine KZq_if ?_ ?_
    · skip
      refine KZq_rd (fun _ => ?_)
      refine KZq_if ?_ ?_
      · skip
        exact kz_B_instance_165.tr kzq_rf
      · skip
        refine KZq_rd (fun _ => ?_)
        refine KZq_rd (fun _ => ?_)
        refine KZq_rd (fun _ => ?_)
        refine KZq_rd (fun _ => ?_)
        refine KZq_wr ?_
        refine KZq_if ?_ ?_
        · skip
          refine KZq_rd (fun _ => ?_)
          refine KZq_rd (fun _ => ?_)
          refine KZq_if ?_ ?_
          · skip
            exact (kz_B_instance_158 h_R_50).tr (fz_sA (by decide) kzq_rf)
          · skip
            exact (kz_B_instance_153 h_R_50).tr (fz_sA (by decide) kzq_rf)
        · skip
          exact (kz_B_instance_153 h_R_50).tr (fz_sA (by decide) kzq_rf)
    · skip
      exact kz_B_instance_165.tr kzq_rf
theorem kz_LP_instance_50 {N : Nat}  (n : Nat) : ∀ a : Int32 × Int32 × Int32 × RSt, KZq (LP_instance_50 N n a) a.2.2.2 := by
  induction n with
  | zero => exact fun a r z e => by have e : (none : Option _) = some (r, z) := e; cases e
  | succ n ih =>
    intro a
    show KZq (B_instance_50 N (LP_instance_50 N n) a.1 a.2.1 a.2.2.1 a.2.2.2) a.2.2.2
    exact kz_B_instance_50 ih
theorem kz_B_instance_43 {N : Nat} {l1 : Int32} {s1 : Int32} {s2 : Int32} {s3 : Int32} {u : RSt}  : KZq (B_instance_43 N l1 s1 s2 s3 u) u := by
  unfold B_instance_43
  refine KZq_bn (kz_F_telling.tr kzq_rf) (fun _ _ => ?_)
  exact (kz_LP_instance_50  _ _).tr kzq_rf
theorem kz_B_instance_0 {N : Nat} {l1 : Int32} {u : RSt}  : KZq (B_instance_0 N l1 u) u := by
  unfold B_instance_0
  refine KZq_bn (kz_F_is.tr kzq_rf) (fun _ _ => ?_)
  refine KZq_if ?_ ?_
  · skip
    refine KZq_bn (kz_F_stuck.tr kzq_rf) (fun _ _ => ?_)
    exact KZq_some kzq_rf
  · skip
    refine KZq_rd (fun _ => ?_)
    refine KZq_rd (fun _ => ?_)
    refine KZq_if ?_ ?_
    · skip
      exact kz_B_instance_43.tr kzq_rf
    · skip
      exact kz_B_instance_43.tr kzq_rf
theorem kz_F_instance {N : Nat} {l1 : Int32} {u : RSt}  : KZq (F_instance N l1 u) u := by
  unfold F_instance
  exact kz_B_instance_0.tr kzq_rf
theorem kz_B_use_68 {N : Nat} {R_68 : Int32 × RSt → Option (Int32 × RSt)} {l1 : Int32} {u : RSt} (h_R_68 : ∀ a, KZq (R_68 a) a.2) : KZq (B_use_68 N R_68 l1 u) u := by
  unfold B_use_68
  refine KZq_bn (kz_F_has.tr kzq_rf) (fun _ _ => ?_)
  refine KZq_if ?_ ?_
  · skip
    refine KZq_bn (kz_F_take.tr kzq_rf) (fun _ _ => ?_)
    exact KZq_some kzq_rf
  · skip
    refine KZq_bn (kz_F_instance.tr kzq_rf) (fun _ _ => ?_)
    exact (h_R_68 _).tr kzq_rf
theorem kz_LP_use_68 {N : Nat}  (n : Nat) : ∀ a : Int32 × RSt, KZq (LP_use_68 N n a) a.2 := by
  induction n with
  | zero => exact fun a r z e => by have e : (none : Option _) = some (r, z) := e; cases e
  | succ n ih =>
    intro a
    show KZq (B_use_68 N (LP_use_68 N n) a.1 a.2) a.2
    exact kz_B_use_68 ih
theorem kz_B_use_40 {N : Nat} {l1 : Int32} {s1 : Int32} {u : RSt}  : KZq (B_use_40 N l1 s1 u) u := by
  unfold B_use_40
  refine KZq_rd (fun _ => ?_)
  refine KZq_bn (kz_F_wrong.tr kzq_rf) (fun _ _ => ?_)
  refine KZq_pu ?_
  refine KZq_bn (kz_F_instance.tr (fz_sI (by decide) kzq_rf)) (fun _ _ => ?_)
  exact (kz_LP_use_68  _ _).tr kzq_rf
theorem kz_B_use_0 {N : Nat} {u : RSt}  : KZq (B_use_0 N u) u := by
  unfold B_use_0
  refine KZq_pu ?_
  refine KZq_bn (kz_F_is.tr (fz_sI (by decide) kzq_rf)) (fun _ _ => ?_)
  refine KZq_if ?_ ?_
  · skip
    refine KZq_bn (kz_F_stuck.tr kzq_rf) (fun _ _ => ?_)
    exact KZq_some kzq_rf
  · skip
    refine KZq_bn (kz_F_own.tr kzq_rf) (fun _ _ => ?_)
    refine KZq_if ?_ ?_
    · skip
      exact kz_B_use_40.tr kzq_rf
    · skip
      exact kz_B_use_40.tr kzq_rf
theorem kz_F_use {N : Nat} {u : RSt}  : KZq (F_use N u) u := by
  unfold F_use
  exact kz_B_use_0.tr kzq_rf
theorem kz_B_tasked_213 {N : Nat} {u : RSt}  : KZq (B_tasked_213 N u) u := by
  unfold B_tasked_213
  refine KZq_bn (kz_G_body.tr kzq_rf) (fun _ _ => ?_)
  refine KZq_bn (kz_F_emit.tr kzq_rf) (fun _ _ => ?_)
  refine KZq_pu ?_
  exact KZq_some (fz_sI (by decide) kzq_rf)
theorem kz_B_tasked_125 {N : Nat} {l1 : Int32} {l2 : Int32} {l3 : Int32} {s0 : Int32} {u : RSt}  : KZq (B_tasked_125 N l1 l2 l3 s0 u) u := by
  unfold B_tasked_125
  refine KZq_pu ?_
  refine KZq_pu ?_
  refine KZq_if ?_ ?_
  · skip
    exact kz_B_tasked_213.tr (fz_sI (by decide) (fz_sI (by decide) kzq_rf))
  · skip
    refine KZq_if ?_ ?_
    · skip
      refine KZq_wr ?_
      refine KZq_wr ?_
      refine KZq_bn (kz_F_here.tr (fz_sA (by decide) (fz_sA (by decide) (fz_sI (by decide) (fz_sI (by decide) kzq_rf))))) (fun _ _ => ?_)
      refine KZq_wr ?_
      refine KZq_rd (fun _ => ?_)
      refine KZq_wr ?_
      refine KZq_rd (fun _ => ?_)
      refine KZq_wr ?_
      refine KZq_rd (fun _ => ?_)
      refine KZq_wr ?_
      exact kz_B_tasked_213.tr (fz_sA (by decide) (fz_sB (by decide) (fz_sB (by decide) (fz_sA (by decide) kzq_rf))))
    · skip
      exact kz_B_tasked_213.tr (fz_sI (by decide) (fz_sI (by decide) kzq_rf))
theorem kz_B_tasked_53 {N : Nat} {s1 : Int32} {s2 : Int32} {s3 : Int32} {u : RSt}  : KZq (B_tasked_53 N s1 s2 s3 u) u := by
  unfold B_tasked_53
  refine KZq_bn (kz_F_telling.tr kzq_rf) (fun _ _ => ?_)
  refine KZq_rd (fun _ => ?_)
  refine KZq_pu ?_
  refine KZq_bn (kz_F_take.tr (fz_sI (by decide) kzq_rf)) (fun _ _ => ?_)
  refine KZq_bn (kz_F_bounded.tr kzq_rf) (fun _ _ => ?_)
  refine KZq_bn (kz_F_has.tr kzq_rf) (fun _ _ => ?_)
  refine KZq_if ?_ ?_
  · skip
    exact kz_B_tasked_125.tr kzq_rf
  · skip
    refine KZq_bn (kz_F_bounded.tr kzq_rf) (fun _ _ => ?_)
    exact kz_B_tasked_125.tr kzq_rf
theorem kz_B_tasked_0 {N : Nat} {u : RSt}  : KZq (B_tasked_0 N u) u := by
  unfold B_tasked_0
  refine KZq_pu ?_
  refine KZq_bn (kz_F_is.tr (fz_sI (by decide) kzq_rf)) (fun _ _ => ?_)
  refine KZq_if ?_ ?_
  · skip
    refine KZq_bn (kz_F_stuck.tr kzq_rf) (fun _ _ => ?_)
    exact KZq_some kzq_rf
  · skip
    refine KZq_rd (fun _ => ?_)
    refine KZq_rd (fun _ => ?_)
    refine KZq_if ?_ ?_
    · skip
      exact kz_B_tasked_53.tr kzq_rf
    · skip
      exact kz_B_tasked_53.tr kzq_rf
theorem kz_F_tasked {N : Nat} {u : RSt}  : KZq (F_tasked N u) u := by
  unfold F_tasked
  exact kz_B_tasked_0.tr kzq_rf
theorem kz_B_text_0 {N : Nat} {R_0 : RSt → Option (Int32 × RSt)} {u : RSt} (h_R_0 : ∀ a, KZq (R_0 a) a) : KZq (B_text_0 N R_0 u) u := by
  unfold B_text_0
  refine KZq_if ?_ ?_
  · skip
    refine KZq_bn (kz_F_is.tr kzq_rf) (fun _ _ => ?_)
    refine KZq_if ?_ ?_
    · skip
      refine KZq_rd (fun _ => ?_)
      refine KZq_if ?_ ?_
      · skip
        refine KZq_bn (kz_F_variables.tr kzq_rf) (fun _ _ => ?_)
        exact (h_R_0 _).tr kzq_rf
      · skip
        refine KZq_if ?_ ?_
        · skip
          refine KZq_bn (kz_F_variables.tr kzq_rf) (fun _ _ => ?_)
          exact (h_R_0 _).tr kzq_rf
        · skip
          refine KZq_if ?_ ?_
          · skip
            refine KZq_bn (kz_F_image.tr kzq_rf) (fun _ _ => ?_)
            exact (h_R_0 _).tr kzq_rf
          · skip
            refine KZq_if ?_ ?_
            · skip
              refine KZq_bn (kz_F_image.tr kzq_rf) (fun _ _ => ?_)
              exact (h_R_0 _).tr kzq_rf
            · skip
              refine KZq_if ?_ ?_
              · skip
                refine KZq_bn (kz_F_part.tr kzq_rf) (fun _ _ => ?_)
                exact (h_R_0 _).tr kzq_rf
              · skip
                refine KZq_if ?_ ?_
                · skip
                  refine KZq_bn (kz_F_use.tr kzq_rf) (fun _ _ => ?_)
                  exact (h_R_0 _).tr kzq_rf
                · skip
                  refine KZq_if ?_ ?_
                  · skip
                    refine KZq_bn (kz_F_part.tr kzq_rf) (fun _ _ => ?_)
                    exact (h_R_0 _).tr kzq_rf
                  · skip
                    refine KZq_if ?_ ?_
                    · skip
                      refine KZq_bn (kz_F_tasked.tr kzq_rf) (fun _ _ => ?_)
                      exact (h_R_0 _).tr kzq_rf
                    · skip
                      refine KZq_bn (kz_F_stuck.tr kzq_rf) (fun _ _ => ?_)
                      exact (h_R_0 _).tr kzq_rf
    · skip
      exact KZq_some kzq_rf
  · skip
    exact KZq_some kzq_rf
theorem kz_LP_text_0 {N : Nat}  (n : Nat) : ∀ a : RSt, KZq (LP_text_0 N n a) a := by
  induction n with
  | zero => exact fun a r z e => by have e : (none : Option _) = some (r, z) := e; cases e
  | succ n ih =>
    intro a
    show KZq (B_text_0 N (LP_text_0 N n) a) a
    exact kz_B_text_0 ih
theorem kz_F_text {N : Nat} {u : RSt}  : KZq (F_text N u) u := by
  unfold F_text
  exact (kz_LP_text_0  _ _).tr kzq_rf
/-! load: J9 over it, once the code of what was loaded stays over a refused load. -/
theorem load_J9 {v w : CSt} {u x : RSt} {N n : Nat} {l1 y r : Int32} (hN : 5000000000 ≤ N) (hJ : J9 N n v u) (h55 : 0 ≤ (u.1 55).toInt ∧ (u.1 55).toInt ≤ 1) (h9 : F_X11_load N l1 v = some (y, w)) (h8 : F_load N l1 u = some (r, x)) (hc : ∀ s0 : Nat, (u.1 55).toInt = (s0 : Int) → x.1 55 = u.1 55 → x.2.2.1 54 s0 = u.2.2.1 54 s0 ∧ ∀ j, 8000 * s0 ≤ j → j < 8000 * s0 + 8000 → (x.2.2.1 49 j, x.2.2.1 50 j, x.2.2.1 51 j, x.2.2.2 52 j, x.2.2.2 53 j) = (u.2.2.1 49 j, u.2.2.1 50 j, u.2.2.1 51 j, u.2.2.2 52 j, u.2.2.2 53 j)) : J9 N (n + 1) w x := by
  have h8' : J8 w x := load_J8 hN hJ.1 h55 h9 h8
  obtain ⟨j5, h01, hr2, s0, T, hs, h5, hT⟩ := hJ.1.1
  have hFS : FSq v := by
    obtain ⟨-, -, s, T, gk, -, tb, -⟩ := hJ
    exact tb.2.2.2.2
  have hP8 : OP8 v (cR v 1) := by
    rcases (show cR v 1 = 0 ∨ cR v 1 = 1 by omega) with e | e
    · rw [e]; exact hJ.2.1.1
    · rw [e]; exact hJ.2.1.2
  have hL : LD9 N l1 l1 v w u x s0 := load_more9 hN j5.1 h5 hs h01 hr2 hFS hP8 _ _ h9 _ _ h8
  rcases hL with hf | ⟨w2, x9, nn, j, T', G, r1, r2, f, g, hIT, hXT, hi, ha⟩
  · exact ld_bad hJ h8' h5 hf (hc s0 h5 hf.2.2.2.2.2.1)
  · exact ld_good hJ h8' h01 hr2 h5 hs j5.1.2.1 f g hIT hXT hi ha
/-! A load that is refused leaves the code of what was loaded. -/
/-- the counts of both sides' instructions -/
def CN9 (u : RSt) : Prop := ∀ j : Nat, j < 2 → 0 ≤ (u.2.2.1 54 j).toInt ∧ (u.2.2.1 54 j).toInt ≤ 8000
/-- the numbers beside the instructions of a side stay -/
def KS9 (s : Nat) (u w : RSt) : Prop := ∀ j : Nat, 8000 * s ≤ j → j < 8000 * s + 8000 → w.2.2.2 52 j = u.2.2.2 52 j ∧ w.2.2.2 53 j = u.2.2.2 53 j
def LE9 (u w : RSt) : Prop := CN9 w ∧ (w.1 55 = u.1 55 → SZq u w (sN u) ∧ KS9 (sN u) u w)
theorem wp_pp {β : Type} {X : Option (β × RSt)} {P Q : β → RSt → Prop} (h : wp X P) (h2 : pp X Q) : wp X (fun r w => P r w ∧ Q r w) := by
  obtain ⟨r, w, e, hp⟩ := h
  exact ⟨r, w, e, hp, h2 r w e⟩
section N39a
variable {u v w z : RSt} {N k j s T : Nat} {x l1 l2 l3 : Int32} {y : Int64}
theorem kz_goT : pp (F_goThrough N l1 u) (fun _ w => kzq u w) := by
  have h : KZq (F_goThrough N l1 u) u := by
    unfold F_goThrough B_goThrough_0
    refine KZq_zr (KZq_pu (KZq_pu (KZq_pu (KZq_pu (KZq_pu ?_)))))
    refine KZq_bn (KZq.tr kz_F_text ?_) (fun _ _ => KZq_some kzq_rf)
    exact fz_sI (by decide) (fz_sI (by decide) (fz_sI (by decide) (fz_sI (by decide) (fz_sI (by decide) kzq_rf))))
  exact h
theorem KS9_kz (h : kzq v w) (hs : s < 2) (h56 : (v.1 56).toInt = ((1 - s : Nat) : Int)) (h0 : 0 ≤ (v.2.2.1 54 (1 - s)).toInt) (h1 : (v.2.2.1 54 (1 - s)).toInt ≤ 8000) (h2 : (w.2.2.1 54 (1 - s)).toInt ≤ 8000) : KS9 s v w := by
  obtain ⟨a, b, c⟩ := h.2 (1 - s) h56 h0 (by omega)
  intro j j0 j1
  refine c j ?_
  rcases (show s = 0 ∨ s = 1 by omega) with rfl | rfl
  · exact Or.inl (by omega)
  · refine Or.inr ?_
    have h2 : (w.2.2.1 54 0).toInt ≤ 8000 := h2
    show 8000 * ((0 : Nat) : Int) + (w.2.2.1 54 0).toInt ≤ (j : Int)
    omega
theorem sd9 (hu : UR u) (hl : LDF u v) : sN u < 2 ∧ toN v = 1 - sN u ∧ (v.1 56).toInt = ((1 - sN u : Nat) : Int) := by
  obtain ⟨s0, s1⟩ := side1 hu.2.2.1.1 hu.2.2.1.2 hl.2.2.2.2.2
  have q : toN v = (v.1 56).toInt.toNat := rfl
  have q2 : sN u = (u.1 55).toInt.toNat := rfl
  have h1 := hu.2.2.1.1
  have h2 := hu.2.2.1.2
  omega
theorem go9 (hu : UR u) (hl : LDF u v) (hl2 : LDF u w) (hc0 : CN9 u) (hk : kzq v w) (hf : (v.2.2.1 54 (toN v)).toInt ≤ 8000 → (w.2.2.1 54 (toN v)).toInt ≤ 8000) (hcv : CN9 v) (hK : KS9 (sN u) u v) : CN9 w ∧ KS9 (sN u) u w := by
  obtain ⟨hs, tn, h56⟩ := sd9 hu hl
  have c1 := hcv (1 - sN u) (by omega)
  obtain ⟨a1, a2, a3⟩ := hk.2 (1 - sN u) h56 c1.1 (by omega)
  rw [tn] at hf
  have b := hf c1.2
  refine ⟨fun j hj => ?_, fun j j0 j1 => ?_⟩
  · rcases (show j = sN u ∨ j = 1 - sN u by omega) with e | e
    · have e9 : w.2.2.1 54 j = u.2.2.1 54 j := hl2.2.2.1 54 (by decide) j (by show j / 1 = sN u; omega)
      rw [e9]
      exact hc0 j hj
    · rw [e]
      exact ⟨by omega, b⟩
  · have d := KS9_kz hk hs h56 c1.1 c1.2 b j j0 j1
    have d2 := hK j j0 j1
    exact ⟨d.1.trans d2.1, d.2.trans d2.2⟩
theorem clr9 (h : CLR v w) (h9 : CN9 v ∧ KS9 s u v) : CN9 w ∧ KS9 s u w := by
  obtain ⟨c1, c2, c3, c4, c5⟩ := h
  refine ⟨fun j hj => ?_, fun j j0 j1 => by rw [c5]; exact h9.2 j j0 j1⟩
  rw [c4 54 (by decide)]
  unfold upd
  by_cases c : j = toN v
  · rw [if_pos c]; decide
  · rw [if_neg c]; exact h9.1 j hj
theorem n55 (hu : UR u) (h : w.1 55 = 1 - u.1 55) : w.1 55 ≠ u.1 55 := by
  have e1 : (1 : Int32).toInt = 1 := by decide
  have h0 := hu.2.2.1.1
  have h1 := hu.2.2.1.2
  have e : (1 - u.1 55).toInt = 1 - (u.1 55).toInt := by rw [tI_sub (by rw [e1]; omega) (by rw [e1]; omega), e1]
  intro q
  rw [q] at h
  rw [← h] at e
  omega
theorem e150_9 (hN : 5000000000 ≤ N) (hu : UR u) (h : LDF u v) (hi : IVQ v T 0) (h69 : v.1 67 = 0 → ¬ v.1 69 = 0) (h9 : CN9 v ∧ KS9 (sN u) u v) : wp (B_load_150 N l1 v) (fun _ w => LE9 u w) := by
  refine wp_mono (wp_pp (e_load150 (l1 := l1) hN hu h hi h69) (Q := fun _ w => LE9 u w) ?_) (fun _ _ h => h.2)
  have e171 : ∀ s : Int32, pp (B_load_171 N l1 s (sI v 1 0)) (fun _ w => LE9 u w) := by
    intro s
    unfold B_load_171
    refine pp_pu (pp_if (fun _ => pp_bn (fun ra w ea => pp_some ?_)) (fun _ => pp_some ?_))
    · have ja := acc_T _ _ ea
      have j4 := e4_F_accept _ _ ea
      have e54 : w.2.2.1 54 = v.2.2.1 54 := j4.1 54 (by decide)
      refine ⟨fun j hj => by rw [e54]; exact h9.1 j hj, fun q => absurd q (n55 hu ?_)⟩
      exact ja.1.trans h.2.2.2.2.2
    · exact ⟨h9.1, fun _ => ⟨h.2.2.1, h9.2⟩⟩
  unfold B_load_150
  exact pp_pu (pp_if (fun _ => e171 _) (fun _ => e171 _))
theorem x_load9 (hN : 5000000000 ≤ N) (hu : UR u) (hc : CN9 u) : wp (F_load N l1 u) (fun _ w => LE9 u w) := by
  have z0 : (0 : Int32).toInt = 0 := by decide
  have e1 : (1 : Int32).toInt = 1 := by decide
  have e5 : (5 : Int32).toInt = 5 := by decide
  have e8 : (8 : Int32).toInt = 8 := by decide
  obtain ⟨u1, u2, u3, u4, u5, u6, u7⟩ := id hu
  unfold F_load B_load_0
  refine wp_pu.mpr ?_
  rw [wp_bn]
  refine wp_mono (x_cutAll hN (u := sI u 9 0) u6) (fun _ v hv => ?_)
  obtain ⟨⟨v1, v3, v4, v2⟩, T, hT, hiT⟩ := hv
  refine wp_pu.mpr (wp_pu.mpr (wp_pu.mpr ?_))
  generalize ep : sI (sI (sI v 56 (1 - v.1 55)) 67 0) 68 (-1) = p
  have vk : ∀ k, k ∉ [8, 9] → v.1 k = u.1 k := by
    intro k hk
    simp only [List.mem_cons, List.not_mem_nil, or_false, not_or] at hk
    rw [v1 k hk.1, sI_1, if_neg hk.2]
  have p1 : ∀ k, k ∉ [8, 9, 56, 67, 68] → p.1 k = u.1 k := by
    intro k hk
    simp only [List.mem_cons, List.not_mem_nil, or_false, not_or] at hk
    rw [← ep, sI_1, if_neg hk.2.2.2.2, sI_1, if_neg hk.2.2.2.1, sI_1, if_neg hk.2.2.1]
    exact vk k (by simp only [List.mem_cons, List.not_mem_nil, or_false, not_or]; exact ⟨hk.1, hk.2.1⟩)
  have p56 : p.1 56 = 1 - u.1 55 := by
    rw [← ep]
    show 1 - v.1 55 = _
    rw [vk 55 (by decide)]
  have p67 : p.1 67 = 0 := by rw [← ep]; rfl
  have p3 : ∀ k, k ∉ [2, 3, 5] → p.2.2.1 k = u.2.2.1 k := fun k hk => by rw [← ep]; exact v3 k hk
  have pT : isT (p.2.2.1 2 T) := by rw [← ep]; exact hiT
  obtain ⟨s0, s1⟩ := side1 u3.1 u3.2 p56
  have lp : LDF u p := by
    refine ⟨fun k hk => p1 k (fun q => ?_), ⟨p3 95 (by decide), p3 96 (by decide), p3 88 (by decide)⟩, SZq.of (fun k hk => p3 k (fun q => ?_)), ?_, u2.of (p3 11 (by decide)) (p3 12 (by decide)), p56⟩
    · simp only [List.mem_cons, List.not_mem_nil, or_false] at q hk
      omega
    · simp only [List.mem_cons, List.not_mem_nil, or_false] at q hk
      omega
    · obtain ⟨t1, t2, t3, t4, t5, t6, t7, t8, t9, t10⟩ := u1
      unfold TB0 VOK SLT PRT INT CNT
      rw [p1 61 (by decide), p1 72 (by decide), p3 10 (by decide), p3 11 (by decide), p3 12 (by decide), p3 13 (by decide), p3 15 (by decide), p3 20 (by decide), p3 21 (by decide), p3 23 (by decide), p3 28 (by decide), p3 29 (by decide), p3 30 (by decide), p3 31 (by decide), p3 33 (by decide), p3 38 (by decide), p3 39 (by decide), p3 19 (by decide), p3 27 (by decide), p3 42 (by decide), p3 37 (by decide), p3 36 (by decide), p3 48 (by decide)]
      exact ⟨t1, t2, t3, t4, t5, t6, t7, t8, s0.1, s0.2⟩
  have hp9 : CN9 p ∧ KS9 (sN u) u p := by
    have q54 : p.2.2.1 54 = u.2.2.1 54 := p3 54 (by decide)
    have q52 : p.2.2.2 52 = u.2.2.2 52 := by rw [← ep]; exact v4 52 (by decide)
    have q53 : p.2.2.2 53 = u.2.2.2 53 := by rw [← ep]; exact v4 53 (by decide)
    exact ⟨fun j hj => by rw [q54]; exact hc j hj, fun j _ _ => ⟨by rw [q52], by rw [q53]⟩⟩
  rw [wp_bn]
  refine wp_mono (wp_pp (x_goThrough hN (Or.inl rfl) hT pT lp.2.2.2.1 (fun z => absurd rfl z)) kz_goT) (fun _ w0 hw0 => ?_)
  obtain ⟨⟨i0, f0⟩, z9⟩ := hw0
  have lp' : LDF u (sI p 69 0) := lp.fx (FX.rf.si (a := [69]) (b := []) (c := []) (by decide)) lp.2.2.2.1 (by decide) (by simp)
  have l0 := lp'.fri hu f0 i0.2.1
  have h09 := go9 hu lp l0 hc z9 f0.2.2.2.2.2 hp9.1 hp9.2
  have w69 : w0.1 69 = 0 := by rw [f0.1 69 (by unfold zi; decide)]; rfl
  refine wp_if.mpr ⟨fun c0 => ?_, fun c0 => e150_9 hN hu l0 i0 (fun q => absurd q c0) h09⟩
  have w2 : w0.2.2.1 2 = p.2.2.1 2 := funext fun j => f0.2.2.1 2 j (by unfold zf; decide) (Or.inl (by decide))
  have s0' := (side1 u3.1 u3.2 l0.2.2.2.2.2).1
  have vw : vp_in (w0.1 56) 2 := vin_iff.mpr ⟨s0'.1, by omega⟩
  refine wp_wr.mpr ⟨vw, wp_wr.mpr ⟨vw, wp_wr.mpr ⟨vw, wp_wr.mpr ⟨vw, wp_wr.mpr ⟨vw, wp_wr.mpr ⟨vw, wp_wr.mpr ⟨vw, wp_pu.mpr (wp_pu.mpr ?_)⟩⟩⟩⟩⟩⟩⟩
  generalize eq : sI (sI (sA (sA (sA (sA (sA (sA (sA w0 19 _ _) 27 _ _) 36 _ _) 37 _ _) 42 _ _) 48 _ _) 54 _ _) 62 0) 63 0 = q
  have clr : CLR w0 q := by
    refine ⟨fun k hk => ?_, ⟨by rw [← eq]; rfl, by rw [← eq]; rfl⟩, fun k hk => ?_, fun k hk => ?_, by rw [← eq]; rfl⟩
    · simp only [List.mem_cons, List.not_mem_nil, or_false, not_or] at hk
      rw [← eq, sI_1, if_neg hk.2, sI_1, if_neg hk.1]
      rfl
    · simp only [List.mem_cons, List.not_mem_nil, or_false, not_or] at hk
      rw [← eq]
      show (sA (sA (sA (sA (sA (sA (sA w0 19 _ _) 27 _ _) 36 _ _) 37 _ _) 42 _ _) 48 _ _) 54 _ _).2.2.1 k = _
      rw [sA_3, if_neg hk.2.2.2.2.2.2, sA_3, if_neg hk.2.2.2.2.2.1, sA_3, if_neg hk.2.2.2.2.1, sA_3, if_neg hk.2.2.2.1, sA_3, if_neg hk.2.2.1, sA_3, if_neg hk.2.1, sA_3, if_neg hk.1]
    · simp only [List.mem_cons, List.not_mem_nil, or_false] at hk
      rw [← eq]
      rcases hk with rfl | rfl | rfl | rfl | rfl | rfl | rfl <;> rfl
  have lq := clr.ldf hu l0
  have hq9 : CN9 q ∧ KS9 (sN u) u q := clr9 clr h09
  have q2 : q.2.2.1 2 = p.2.2.1 2 := by rw [clr.2.2.1 2 (by decide)]; exact w2
  have q67 : q.1 67 = 0 := by rw [clr.1 67 (by decide)]; exact c0
  have qt : toN q = toN w0 := by unfold toN; rw [clr.1 56 (by decide)]
  have qz : ∀ k, k ∈ [19, 27, 36, 37, 42, 48, 54] → q.2.2.1 k (toN q) = 0 := by
    intro k hk
    rw [clr.2.2.2.1 k hk, qt]
    exact if_pos rfl
  unfold LP_load_123
  refine wp_lp (fun (d : Nat) (x : Int32 × Int32 × RSt) => x.1 = l1 ∧ 0 ≤ x.2.1.toInt ∧ x.2.1.toInt ≤ 5 ∧ FX [] [64] [] q x.2.2 ∧ (∀ i : Nat, (i : Int) < x.2.1.toInt → x.2.2.2.2.1 64 i = 0) ∧ d = (5 - x.2.1.toInt).toNat) ?_ _ 5 _ (by omega) ⟨rfl, by show 0 ≤ (0 : Int32).toInt; decide, by show (0 : Int32).toInt ≤ 5; decide, FX.rf, fun i hi => absurd (show (i : Int) < (0 : Int32).toInt from hi) (by rw [z0]; omega), rfl⟩
  rintro d R ⟨m1, m2, o⟩ ⟨g0, g1, g2, g3, g4, g5⟩ ih
  dsimp only at g0 g1 g2 g3 g4 g5 ih ⊢
  subst g0
  unfold B_load_123
  refine wp_if.mpr ⟨fun cc => ?_, fun cc => ?_⟩
  · have c1 := Int32.le_iff_toInt_le.mp cc
    rw [e5] at c1
    rw [wp_bn]
    refine wp_mono (x_eight hN) (fun _ r hr => ?_)
    obtain ⟨r1, r2, r3⟩ := hr
    have f2 : FX [61] [59, 60, 64] [57, 58] q r := (g3.mo (by simp) (by decide) (by simp)).tr (r1.mo (fun k hk => hk) (by decide) (fun k hk => hk))
    have tr : TB0 r := by
      have hh : ∀ k, k ∈ [10, 11, 12, 13, 15, 19, 20, 21, 23, 27, 28, 29, 30, 31, 33, 36, 37, 38, 39, 42, 48] → r.2.2.1 k = q.2.2.1 k := fun k hk => f2.2.1 k (fun z => by
        simp only [List.mem_cons, List.not_mem_nil, or_false] at z hk
        omega)
      obtain ⟨t1, t2, t3, t4, t5, t6, t7, t8, t9, t10⟩ := lq.2.2.2.1
      unfold TB0 VOK SLT PRT INT CNT
      rw [r2, f2.1 72 (by decide), f2.1 56 (by decide), hh 10 (by decide), hh 11 (by decide), hh 12 (by decide), hh 13 (by decide), hh 15 (by decide), hh 20 (by decide), hh 21 (by decide), hh 23 (by decide), hh 28 (by decide), hh 29 (by decide), hh 30 (by decide), hh 31 (by decide), hh 33 (by decide), hh 38 (by decide), hh 39 (by decide), hh 19 (by decide), hh 27 (by decide), hh 42 (by decide), hh 37 (by decide), hh 36 (by decide), hh 48 (by decide)]
      exact ⟨t1, t2, t3, t4, t5, t6, by rw [e8]; decide, t8, t9, t10⟩
    have lr : LDF u r := lq.fx f2 tr (by decide) (by decide)
    have hr9 : CN9 r ∧ KS9 (sN u) u r := by
      have q54 : r.2.2.1 54 = q.2.2.1 54 := f2.2.1 54 (by decide)
      have q52 : r.2.2.2 52 = q.2.2.2 52 := f2.2.2 52 (by decide)
      have q53 : r.2.2.2 53 = q.2.2.2 53 := f2.2.2 53 (by decide)
      exact ⟨fun j hj => by rw [q54]; exact hq9.1 j hj, fun j j0 j1 => ⟨by rw [q52]; exact (hq9.2 j j0 j1).1, by rw [q53]; exact (hq9.2 j j0 j1).2⟩⟩
    have rt : toN r = toN q := by unfold toN; rw [f2.1 56 (by decide)]
    have rz : ∀ k, k ∈ [19, 27, 36, 37, 42, 48, 54] → r.2.2.1 k (toN r) = 0 := by
      intro k hk
      rw [rt, f2.2.1 k (fun z => by
        simp only [List.mem_cons, List.not_mem_nil, or_false] at z hk
        omega)]
      exact qz k hk
    have r64 : ∀ i, i < 5 → r.2.2.1 64 i = 0 := fun i hi => by
      rw [r1.2.1 64 (by decide)]
      exact g4 i (by omega)
    have r62 : r.1 62 = 0 := by rw [f2.1 62 (by decide)]; exact clr.2.1.1
    have r63 : r.1 63 = 0 := by rw [f2.1 63 (by decide)]; exact clr.2.1.2
    rw [wp_bn]
    refine wp_mono (wp_pp (x_goThrough (T := T) hN (Or.inr rfl) hT (by rw [f2.2.1 2 (by decide), q2]; exact pT) tr (fun _ _ => ⟨?_, ⟨?_, ?_, ?_, ?_, ?_, ⟨?_, ?_⟩, ?_⟩, fun k hk => rz k (by
        simp only [List.mem_cons, List.not_mem_nil, or_false] at hk ⊢
        omega)⟩)) kz_goT) (fun _ w hw => ?_)
    · intro g hg
      rw [r2, e8] at hg
      obtain ⟨a1, a2⟩ := r3 g (by omega)
      unfold GOK
      rw [a1, a2]
      exact ⟨⟨by omega, fun z => absurd z (by decide), fun z => absurd z (by decide), fun z => absurd z (by decide), fun z => absurd z (by decide), fun _ => by omega⟩, fun z => absurd z (by decide)⟩
    · rw [r2, e8]; decide
    · rw [r2, e8, r62, z0]; decide
    · rw [r62, z0]; decide
    · rw [rz 19 (by decide), r62]; exact Int.le_refl _
    · rw [rz 27 (by decide), r62]; exact Int.le_refl _
    · intro k hk
      rw [r64 k hk, z0]; decide
    · rw [r63, r64 0 (by omega), r64 1 (by omega), r64 2 (by omega), r64 3 (by omega), r64 4 (by omega), z0]; decide
    · intro b hb
      rw [rz 36 (by decide), z0] at hb
      omega
    · obtain ⟨⟨i2, f3⟩, z8⟩ := hw
      have lr' : LDF u (sI r 69 1) := lr.fx (FX.rf.si (a := [69]) (b := []) (c := []) (by decide)) tr (by decide) (by simp)
      have l8 := lr'.fri hu f3 i2.2.1
      have h89 := go9 hu lr l8 hc z8 f3.2.2.2.2.2 hr9.1 hr9.2
      refine e150_9 hN hu l8 i2 (fun _ => ?_) h89
      rw [f3.1 69 (by unfold zi; decide)]
      show ¬ (1 : Int32) = 0
      decide
  · have c1 := Int32.lt_iff_toInt_lt.mp (Int32.not_le.mp cc)
    rw [e5] at c1
    have el : (m2 + 1).toInt = m2.toInt + 1 := by rw [tI_add (by rw [e1]; omega) (by rw [e1]; omega), e1]
    have mn : m2.toNatClampNeg = m2.toInt.toNat := rfl
    refine wp_wr.mpr ⟨vin_iff.mpr ⟨g1, by omega⟩, ih ((5 - (m2 + 1).toInt).toNat) _ (by omega) ⟨rfl, by show 0 ≤ (m2 + 1).toInt; omega, by show (m2 + 1).toInt ≤ 5; omega, g3.sa (by decide), fun i hi => ?_, rfl⟩⟩
    have hi : (i : Int) < (m2 + 1).toInt := hi
    show upd (o.2.2.1 64) m2.toNatClampNeg 0 i = 0
    unfold upd
    by_cases c : i = m2.toNatClampNeg
    · rw [if_pos c]
    · rw [if_neg c]
      exact g4 i (by omega)
end N39a
/-! What holds between two calls, for the law of runs. -/
def J10 (N n : Nat) (v : CSt) (u : RSt) : Prop := J9 N (50 * n) v u ∧ CN9 u
section N39b
variable {v w : CSt} {u x : RSt} {N n m : Nat}
theorem J10_of (h : J9 N m w x) (hm : m ≤ 50 * (n + 1)) (hc : CN9 u) (h4 : je4 u x) : J10 N (n + 1) w x := ⟨J9_mo h hm, fun j hj => by rw [h4.1 54 (by decide)]; exact hc j hj⟩
theorem J10_mo (h : J10 N n v u) : J10 N (n + 1) v u := ⟨J9_mo h.1 (by omega), h.2⟩
theorem load_J10 {l1 y r : Int32} (hN : 5000000000 ≤ N) (hT : J10 N n v u) (hu : UR u) (h9 : F_X11_load N l1 v = some (y, w)) (h8 : F_load N l1 u = some (r, x)) : J10 N (n + 1) w x := by
  obtain ⟨hc1, hc2⟩ : LE9 u x := pp_of (x_load9 hN hu hT.2) _ _ h8
  have h := load_J9 hN hT.1 hu.2.2.1 h9 h8 (fun s0 e5 e55 => by
    obtain ⟨a, b⟩ := hc2 e55
    have es : sN u = s0 := n_of e5
    rw [es] at a b
    refine ⟨a 54 (by decide) s0 (by show s0 / 1 = s0; omega), fun j j0 j1 => ?_⟩
    have z : j / 8000 = s0 := by omega
    rw [a 49 (by decide) j z, a 50 (by decide) j z, a 51 (by decide) j z, (b j j0 j1).1, (b j j0 j1).2])
  exact ⟨J9_mo h (by omega), hc1⟩
end N39b
