/-! A new class and a new reference. (wants 9y3s) -/
theorem wf_kw : ∀ k, k < 29 → wf 151 (k + 1) = pkL (kwl.getD k []) := by decide +kernel
theorem eb_n8 : ∀ k, k < 8 → eb (p8.getD k 0) = pkL (n8.getD k []) := by decide +kernel
theorem EI_8 {v : CSt} {m : Nat} : ∀ k, k < 8 → mI v m 4 = bt_2.getD k 0 → mI v m 11 = bt_3.getD k 0 → EI v m (Int32.ofNat k) := by
  intro k hk h4 h11
  unfold EI
  rw [h4, h11]
  rcases (show k = 0 ∨ k = 1 ∨ k = 2 ∨ k = 3 ∨ k = 4 ∨ k = 5 ∨ k = 6 ∨ k = 7 by omega) with rfl | rfl | rfl | rfl | rfl | rfl | rfl | rfl <;> decide +kernel
theorem CS0.j {v : CSt} (h : CS0 v) (h0 : v.1 0 = 0) : J5 v u00 := by
  obtain ⟨-, h1, h2, h3⟩ := h
  refine ⟨J4_of (m := 0) (fun k hk => ?_) (fun q hq => ?_) ⟨?_, by decide, by omega, fun p hp => absurd hp (Nat.not_lt_zero p)⟩, ?_⟩
  · rw [h2]
    exact wf_kw k hk
  · obtain ⟨a1, a2, a3, a4⟩ := h3 q hq
    refine ⟨a1, a2, a3, fun k hk => ?_⟩
    obtain ⟨b1, b2, b3, b4⟩ := a4 k hk
    exact ⟨b1, b2.trans (eb_n8 k hk), EI_8 k hk b3 b4⟩
  · show (v.1 0).toInt = ((0 : Nat) : Int)
    rw [h0]
    decide
  · rw [h1]
    rfl
