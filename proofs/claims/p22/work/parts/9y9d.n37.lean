/-! A new class and a new reference: what runs use. (wants 9y3s, s95) -/
theorem op8_bt : ∀ k, k < 8 → bt_2.getD k 0 = op8 (Int32.ofNat k) := by decide +kernel
theorem CS0.j9 {v : CSt} {N : Nat} (h : CS0 v) (h8 : J8 v u00) (hF : FSq v) : J9 N 0 v u00 := by
  have e0 : (0 : Int32).toInt = 0 := by decide
  obtain ⟨⟨z1, z2, z3, z4, z5, z6, z7, z8, z9, z10, z11⟩, -, -, hN⟩ := h
  have r0 : cR v 0 = 0 := by
    show v.2.2.2.2.2.2.2.2.2.2 0 = 0
    rw [z11]
    rfl
  have hA : ∀ k i, cA v k i = 0 := fun k i => by
    show v.2.2.1 k i = 0
    rw [z6]
  have hB : ∀ k i, k ≠ 207 → cB v k i = 0 := fun k i hk => by rw [z7 k hk]
  have o8 : ∀ q, q < 2 → OP8 v q := fun q hq k hk => by
    rw [((hN q hq).2.2.2 k hk).2.2.1]
    exact op8_bt k hk
  have tb : TBM v u00 0 0 0 := by
    refine TBM_0 ?_ (fun k _ => ?_) (fun k hk => ?_)
    · show v.2.2.2.2.1 0 12 = 0
      rw [z8]
      rfl
    · show v.2.2.2.2.2.1 0 9 k = 0
      rw [z9]
    · simp only [List.mem_cons, List.not_mem_nil, or_false] at hk
      rcases hk with rfl | rfl | rfl | rfl | rfl | rfl <;> rfl
  refine ⟨h8, ⟨o8 0 (by decide), o8 1 (by decide)⟩, 0, 0, fun _ => 4, ⟨by decide, by decide⟩, ?_⟩
  rw [r0]
  refine ⟨⟨tb, fun r hr => absurd hr (Nat.not_lt_zero r), fun r hr => absurd hr (Nat.not_lt_zero r), fun y hy => absurd hy (Nat.not_lt_zero y), hF⟩, fun y hy => absurd hy (Nat.not_lt_zero y), ⟨fun c _ => ?_, fun c _ n => absurd rfl n⟩, fun k hk => ?_, fun i hi => ?_, fun i _ => ?_, ⟨by rw [z4]; rfl, ⟨by rw [z4]; decide, by rw [z4]; decide⟩, ⟨by rw [z5]; decide, by rw [z5]; decide⟩, fun k hk => ?_⟩, ⟨⟨by rw [z2]; rfl, by rw [z2]; decide, by rw [z2]; decide⟩, by rw [z3]; rfl, by rw [z3]; decide, by rw [z3]; decide⟩⟩
  · rw [hB 235 c (by decide)]
    rfl
  · have hk : (k : Int) < 0 := hk
    omega
  · rw [z1, e0] at hi
    omega
  · rw [hA, hA, hA, hA, hA, hA, hA, hA]
    exact ⟨⟨rfl, rfl⟩, ⟨rfl, rfl⟩, ⟨rfl, rfl⟩, rfl, rfl⟩
  · rw [z4, e0] at hk
    omega
theorem CS9.j10 {v : CSt} {N : Nat} (h : CS9 v) (h0 : v.1 0 = 0) : J10 N 0 v u00 := by
  refine ⟨CS0.j9 h.1 (CS0.j8 h.1 h0) (fun m _ => ?_), fun j _ => ?_⟩
  · rw [h.2 m]
    show -2147483648 ≤ (0 : Int64).toInt ∧ (0 : Int64).toInt ≤ 2147483647
    decide
  · show 0 ≤ (0 : Int32).toInt ∧ (0 : Int32).toInt ≤ 8000
    decide
