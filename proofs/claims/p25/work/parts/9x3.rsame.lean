/-! cut alike -/
/-- cut: class and reference answer alike -/
theorem cut_same {N M : Nat} {l1 : Int32} {l2 r : Int64} {u w : RSt} {v c : CSt} {y : Sum Nat Int64} (h : F_cut N l1 l2 u = some (r, w)) (hc : F_X11_cut M l1 l2 v = some (y, c)) : (y = .inl 1 ∧ w.1 9 = 1) ∨ (y = .inr r ∧ w.1 9 = 0) := by
  have e : n_isKind l1 = r_in l1 0 4 := rfl
  unfold F_cut B_cut_0 F_areKinds B_areKinds_0 B_areKinds_27 B_areKinds_28 at h
  unfold F_X11_cut B_X11_cut_0 at hc
  rw [e] at hc
  by_cases q : r_in l1 0 4 = 0
  · rw [if_pos q] at hc h
    left
    have h1 : (if (1 : Int32) = 0 then some ((1 : Int32), sI u 9 1) else some (0, sI u 9 1)) = some (0, sI u 9 1) := if_neg (by decide)
    have h2 : some ((0 : Int64), sI u 9 1) = some (r, w) := h
    have hw : sI u 9 1 = w := congrArg Prod.snd (Option.some.inj h2)
    exact ⟨(congrArg Prod.fst (Option.some.inj hc)).symm, by rw [← hw]; rfl⟩
  · rw [if_neg q] at hc h
    right
    rw [if_neg q, if_neg (by decide : ¬ (1 : Int32) = 0)] at h
    have h2 : some (r_cut l1 l2, sI u 9 0) = some (r, w) := h
    have hr := congrArg Prod.fst (Option.some.inj h2)
    have hw := congrArg Prod.snd (Option.some.inj h2)
    dsimp only at hr hw
    refine ⟨?_, by rw [← hw]; rfl⟩
    rw [← hr, q_cut]
    exact (congrArg Prod.fst (Option.some.inj hc)).symm
