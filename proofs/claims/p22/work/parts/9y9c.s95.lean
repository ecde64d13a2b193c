/-! A new class and a new reference: nothing is traced. (wants 9y3s) -/
theorem CS0.j8 {v : CSt} (h : CS0 v) (h0 : v.1 0 = 0) : J8 v u00 := by
  have e0 : (0 : Int32).toInt = 0 := by decide
  have z9 : cI v 9 = 0 := h.1.1
  exact ⟨h.j7 h0, by rw [z9]; rfl, by rw [z9, e0]; exact Int.le_refl _, by rw [z9, e0]; decide, fun i hi => by rw [z9, e0] at hi; omega⟩
