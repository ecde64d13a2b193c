/-! A new class and a new reference: the tables. (wants 9y3s) -/
theorem CS0.j7 {v : CSt} (h : CS0 v) (h0 : v.1 0 = 0) : J7 v u00 := by
  obtain ⟨z1, z2, z3, z4, z5, z6, z7, z8, z9, z10, z11⟩ := h.1
  have r0 : cR v 0 = 0 := by
    show v.2.2.2.2.2.2.2.2.2.2 0 = 0
    rw [z11]
    rfl
  have r1 : cR v 1 = 1 := by
    show v.2.2.2.2.2.2.2.2.2.2 1 = 1
    rw [z11]
    rfl
  refine ⟨h.j h0, by rw [r0, r1]; decide, by rw [r0, r1]; decide, 0, 0, by decide, by decide, ?_⟩
  rw [r0]
  refine TBM_0 ?_ (fun k _ => ?_) (fun k hk => ?_)
  · show v.2.2.2.2.1 0 12 = 0
    rw [z8]
    rfl
  · show v.2.2.2.2.2.1 0 9 k = 0
    rw [z9]
  · simp only [List.mem_cons, List.not_mem_nil, or_false] at hk
    rcases hk with rfl | rfl | rfl | rfl | rfl | rfl <;> rfl
