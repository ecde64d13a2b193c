/-! Class and reference answer alike: input, force, watchdog. -/
theorem rin_0 {v a b : Int32} : r_in v a b = 0 ↔ (v < a ∨ b < v) := by
  unfold r_in
  by_cases h : v < a
  · rw [if_pos h]; exact ⟨fun _ => Or.inl h, fun _ => rfl⟩
  · rw [if_neg h]
    by_cases g : b < v
    · rw [if_pos g]; exact ⟨fun _ => Or.inr g, fun _ => rfl⟩
    · rw [if_neg g]; exact ⟨fun q => absurd q (by decide), fun q => q.elim (fun z => absurd z h) (fun z => absurd z g)⟩
theorem lt_64 {x : Int32} : ¬ x < 64 ↔ 63 < x := by
  rw [Int32.not_lt, Int32.le_iff_toInt_le, Int32.lt_iff_toInt_lt]
  have e1 : (64 : Int32).toInt = 64 := rfl
  have e2 : (63 : Int32).toInt = 63 := rfl
  rw [e1, e2]
  omega
theorem fst_some {α β : Type} {a c : α} {b d : β} (h : some (a, b) = some (c, d)) : a = c ∧ b = d := by
  cases h
  exact ⟨rfl, rfl⟩
/-- input: class and reference answer alike -/
theorem input_same {N M : Nat} {l1 l2 r : Int32} {u w : RSt} {v c : CSt} {y : Sum Nat Int32} (h : F_input N l1 l2 u = some (r, w)) (hc : F_X11_input M l1 l2 v = some (y, c)) : (y = .inl 2 ∧ w.1 9 = 1) ∨ ((∃ z, y = .inr z) ∧ w.1 9 = 0) := by
  unfold F_input B_input_0 F_hasByte B_hasByte_0 B_hasByte_16 at h
  unfold F_X11_input B_X11_input_0 at hc
  by_cases q : r_in l1 0 63 = 0
  · left
    rw [if_pos q] at h
    have h2 : some ((0 : Int32), sI u 9 1) = some (r, w) := h
    have hw := (fst_some h2).2
    refine ⟨?_, by rw [← hw]; rfl⟩
    rcases rin_0.mp q with a | a
    · rw [if_pos a] at hc
      exact (fst_some hc).1.symm
    · by_cases b : l1 < 0
      · rw [if_pos b] at hc
        exact (fst_some hc).1.symm
      · rw [if_neg b, if_neg (lt_64.mpr a)] at hc
        exact (fst_some hc).1.symm
  · right
    rw [if_neg q] at h
    have h2 : (wr 128 l1 (sA (sI u 9 0) 84 l1.toNatClampNeg (l2 &&& 255)) fun u_4 => some ((0 : Int32), u_4)) = some (r, w) := h
    have h3 : wp (wr 128 l1 (sA (sI u 9 0) 84 l1.toNatClampNeg (l2 &&& 255)) fun u_4 => some ((0 : Int32), u_4)) (fun _ z => z = w) := ⟨r, w, h2, rfl⟩
    have h4 := wp_some.mp (wp_wr.mp h3).2
    refine ⟨?_, by rw [← h4]; rfl⟩
    have b : ¬ l1 < 0 := fun z => q (rin_0.mpr (Or.inl z))
    have a : l1 < 64 := Classical.byContradiction (fun z => q (rin_0.mpr (Or.inr (lt_64.mp z))))
    rw [if_neg b, if_pos a] at hc
    have c1 : wq (ix 8 0 <| wc 64 l1 (xA v (211 + ((0 : Int32).toNatClampNeg)) l1.toNatClampNeg (l2 &&& 255)) fun u_5 => some (Sum.inr (α := Nat) (0 : Int32), u_5)) (fun z _ => z = y) := ⟨y, c, hc, rfl⟩
    exact ⟨0, (wq_some.mp (wq_wc.mp (wq_ix.mp c1).2).2).symm⟩
theorem f22_9 {N : Nat} {l3 l4 s0 r : Int32} {u w : RSt} (h : B_force_22 N l3 l4 s0 u = some (r, w)) : w.1 9 = u.1 9 := by
  have h3 : wp (B_force_22 N l3 l4 s0 u) (fun _ z => z = w) := ⟨r, w, h, rfl⟩
  unfold B_force_22 at h3
  have h4 := wp_some.mp (wp_wr.mp (wp_wr.mp h3).2).2
  rw [← h4]
  rfl
theorem f62_r {M : Nat} {l2 l3 l4 s1 : Int32} {u c : CSt} {y : Sum Nat Int32} (h : B_X11_force_62 M l2 l3 l4 s1 u = some (y, c)) : ∃ z, y = .inr z := by
  have c1 : wq (B_X11_force_62 M l2 l3 l4 s1 u) (fun z _ => z = y) := ⟨y, c, h, rfl⟩
  unfold B_X11_force_62 at c1
  exact ⟨0, (wq_some.mp (wq_wc.mp (wq_ix.mp c1).2).2).symm⟩
theorem f36_r {M : Nat} {l1 l2 l3 l4 s1 : Int32} {u c : CSt} {y : Sum Nat Int32} (h : B_X11_force_36 M l1 l2 l3 l4 s1 u = some (y, c)) : ∃ z, y = .inr z := by
  have c1 : wq (B_X11_force_36 M l1 l2 l3 l4 s1 u) (fun z _ => z = y) := ⟨y, c, h, rfl⟩
  unfold B_X11_force_36 at c1
  have c2 := (wq_wc.mp (wq_ix.mp c1).2).2
  by_cases a : l1 = 0
  · rw [if_pos a] at c2
    obtain ⟨z, k, h1, h2⟩ := c2
    subst h2
    exact f62_r h1
  · rw [if_neg a] at c2
    obtain ⟨z, k, h1, h2⟩ := c2
    subst h2
    exact f62_r h1
/-- force: class and reference answer alike -/
theorem force_same {N M : Nat} {l1 l2 l3 l4 r : Int32} {u w : RSt} {v c : CSt} {y : Sum Nat Int32} (h : F_force N l1 l2 l3 l4 u = some (r, w)) (hc : F_X11_force M l1 l2 l3 l4 v = some (y, c)) : (y = .inl 2 ∧ w.1 9 = 1) ∨ ((∃ z, y = .inr z) ∧ w.1 9 = 0) := by
  unfold F_force B_force_0 F_hasByte B_hasByte_0 B_hasByte_16 at h
  unfold F_X11_force B_X11_force_0 at hc
  by_cases q : r_in l2 0 63 = 0
  · left
    rw [if_pos q] at h
    have h2 : some ((0 : Int32), sI u 9 1) = some (r, w) := h
    have hw := (fst_some h2).2
    refine ⟨?_, by rw [← hw]; rfl⟩
    rcases rin_0.mp q with a | a
    · rw [if_pos a] at hc
      exact (fst_some hc).1.symm
    · by_cases b : l2 < 0
      · rw [if_pos b] at hc
        exact (fst_some hc).1.symm
      · rw [if_neg b, if_neg (lt_64.mpr a)] at hc
        exact (fst_some hc).1.symm
  · right
    rw [if_neg q] at h
    have h2 : (if l1 = (0 : Int32) then (B_force_22 N l3 l4 l2 (sI u 9 0)) else (B_force_22 N l3 l4 (64 + l2) (sI u 9 0))) = some (r, w) := h
    have b : ¬ l2 < 0 := fun z => q (rin_0.mpr (Or.inl z))
    have a : l2 < 64 := Classical.byContradiction (fun z => q (rin_0.mpr (Or.inr (lt_64.mp z))))
    rw [if_neg b, if_pos a] at hc
    by_cases e : l1 = 0
    · rw [if_pos e] at h2 hc
      exact ⟨f36_r hc, f22_9 h2⟩
    · rw [if_neg e] at h2 hc
      exact ⟨f36_r hc, f22_9 h2⟩
/-- watchdog: class and reference answer alike -/
theorem watchdog_same {N M : Nat} {l1 r : Int32} {u w : RSt} {v c : CSt} {y : Sum Nat Int32} (h : F_watchdog N l1 u = some (r, w)) (hc : F_X11_watchdog M l1 v = some (y, c)) : (y = .inl 1 ∧ w.1 9 = 1) ∨ ((∃ z, y = .inr z) ∧ w.1 9 = 0) := by
  unfold F_watchdog B_watchdog_0 B_watchdog_17 at h
  unfold F_X11_watchdog B_X11_watchdog_0 at hc
  by_cases q : r_in l1 1 5000 = 0
  · left
    rw [if_pos q] at h
    have h2 : some ((0 : Int32), sI u 9 1) = some (r, w) := h
    have hw := (fst_some h2).2
    refine ⟨?_, by rw [← hw]; rfl⟩
    rcases rin_0.mp q with a | a
    · rw [if_pos a] at hc
      exact (fst_some hc).1.symm
    · by_cases b : l1 < 1
      · rw [if_pos b] at hc
        exact (fst_some hc).1.symm
      · rw [if_neg b, if_neg (Int32.not_le.mpr a)] at hc
        exact (fst_some hc).1.symm
  · right
    rw [if_neg q] at h
    have h2 : some ((0 : Int32), sI (sI u 9 0) 105 l1) = some (r, w) := h
    have hw := (fst_some h2).2
    refine ⟨?_, by rw [← hw]; rfl⟩
    have b : ¬ l1 < 1 := fun z => q (rin_0.mpr (Or.inl z))
    have a : l1 ≤ 5000 := Int32.not_lt.mp (fun z => q (rin_0.mpr (Or.inr z)))
    rw [if_neg b, if_pos a] at hc
    have c2 : some (Sum.inr (α := Nat) (0 : Int32), xI v 2 l1) = some (y, c) := hc
    exact ⟨0, (fst_some c2).1.symm⟩
