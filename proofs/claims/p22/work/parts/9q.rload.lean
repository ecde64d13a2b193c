/-! load. -/
/-- what load keeps until the text is taken over -/
def LDF (u w : RSt) : Prop := (∀ k, k ∈ [55, 98, 103, 105] → w.1 k = u.1 k) ∧ (w.2.2.1 95 = u.2.2.1 95 ∧ w.2.2.1 96 = u.2.2.1 96 ∧ w.2.2.1 88 = u.2.2.1 88) ∧ SZq u w (sN u) ∧ TB0 w ∧ SRT w ∧ w.1 56 = 1 - u.1 55
section RLoad
variable {u v w z : RSt} {a b c : List Nat} {N k j s T : Nat} {x l1 l2 l3 : Int32} {y : Int64}
theorem SZq.rf : SZq u u s := fun _ _ _ _ => rfl
theorem SZq.tr (h : SZq u v s) (h2 : SZq v w s) : SZq u w s := fun k hk j hj => (h2 k hk j hj).trans (h k hk j hj)
theorem SZq.fri (h : FRI u w) (hs : toN u ≠ s) : SZq u w s := by
  intro k hk j hj
  refine h.2.2.1 k j (fun q => ?_) (Or.inr (fun z => hs (z.symm.trans hj)))
  unfold zf at q
  simp only [List.mem_cons, List.not_mem_nil, or_false] at q hk
  omega
theorem SZq.of (h : ∀ k, k ∈ [30, 32, 37, 38, 42, 43, 45, 48, 49, 50, 51, 54] → w.2.2.1 k = u.2.2.1 k) : SZq u w s := fun k hk j _ => by rw [h k hk]
theorem side1 (h0 : 0 ≤ (u.1 55).toInt) (h1 : (u.1 55).toInt ≤ 1) (h : w.1 56 = 1 - u.1 55) : (0 ≤ (w.1 56).toInt ∧ (w.1 56).toInt ≤ 1) ∧ toN w ≠ sN u := by
  have e1 : (1 : Int32).toInt = 1 := by decide
  have e : (1 - u.1 55).toInt = 1 - (u.1 55).toInt := by rw [tI_sub (by rw [e1]; omega) (by rw [e1]; omega), e1]
  have q : toN w = (w.1 56).toInt.toNat := rfl
  have q2 : sN u = (u.1 55).toInt.toNat := rfl
  rw [h, e] at q
  rw [h, e]
  omega
theorem LDF.ur (h : LDF u w) (hu : UR u) (ht : TPq w) : UR w := by
  obtain ⟨h1, ⟨h2, h3, h88⟩, h4, h5, h6, -⟩ := h
  obtain ⟨u1, u2, u3, u4, u5, u6, u7⟩ := hu
  have e : sN w = sN u := by unfold sN; rw [h1 55 (by decide)]
  obtain ⟨c1, c2⟩ := u4.fr u5 u1.2.2.2.2.1 h4
  refine ⟨h5, h6, by rw [h1 55 (by decide)]; exact u3, by rw [e]; exact c1, by rw [e]; exact c2, ht, ?_⟩
  unfold WQ
  rw [h1 98 (by decide), h1 103 (by decide), h1 105 (by decide), h2, h3]
  exact u7
theorem LDF.fri (h : LDF u v) (hu : UR u) (hf : FRI v w) (ht : TB0 w) : LDF u w := by
  obtain ⟨h1, ⟨h2, h3, h88⟩, h4, h5, h6, h7⟩ := h
  have hs := (side1 hu.2.2.1.1 hu.2.2.1.2 h7).2
  refine ⟨fun k hk => ?_, ⟨?_, ?_, ?_⟩, h4.tr (SZq.fri hf hs), ht, hf.2.2.2.2.1 h6, by rw [hf.1 56 (by unfold zi; decide)]; exact h7⟩
  · rw [hf.1 k (fun q => ?_)]
    · exact h1 k hk
    · unfold zi at q
      simp only [List.mem_cons, List.not_mem_nil, or_false] at q hk
      omega
  · rw [← h2]
    exact funext fun j => hf.2.2.1 95 j (by unfold zf; decide) (Or.inl (by decide))
  · rw [← h3]
    exact funext fun j => hf.2.2.1 96 j (by unfold zf; decide) (Or.inl (by decide))
  · rw [← h88]
    exact funext fun j => hf.2.2.1 88 j (by unfold zf; decide) (Or.inl (by decide))
theorem LDF.fx (h : LDF u v) (hf : FX a b c v w) (ht : TB0 w) (ha : ∀ k, k ∈ [55, 56, 98, 103, 105] → k ∉ a) (hb : ∀ k, k ∈ [11, 12, 30, 32, 37, 38, 42, 43, 45, 48, 49, 50, 51, 54, 95, 96, 88] → k ∉ b) : LDF u w := by
  obtain ⟨h1, ⟨h2, h3, h88⟩, h4, h5, h6, h7⟩ := h
  have g : ∀ k, k ∈ [11, 12, 30, 32, 37, 38, 42, 43, 45, 48, 49, 50, 51, 54, 95, 96, 88] → w.2.2.1 k = v.2.2.1 k := fun k hk => hf.2.1 k (hb k hk)
  refine ⟨fun k hk => (hf.1 k (ha k ?_)).trans (h1 k hk), ⟨(g 95 (by decide)).trans h2, (g 96 (by decide)).trans h3, (g 88 (by decide)).trans h88⟩, h4.tr (SZq.of (fun k hk => g k ?_)), ht, h6.of (g 11 (by decide)) (g 12 (by decide)), (hf.1 56 (ha 56 (by decide))).trans h7⟩
  · simp only [List.mem_cons, List.not_mem_nil, or_false] at hk ⊢
    omega
  · simp only [List.mem_cons, List.not_mem_nil, or_false] at hk ⊢
    omega
/-- the text is taken over -/
theorem UR.acc (hu : UR u) (h : LDF u v) (hi : IVQ v T 0) (ha : act v) (hf : FX [55, 98, 103, 104] [85, 88, 89, 90, 91, 92, 93, 94] [82, 83] v w) (h55 : w.1 55 = v.1 56) (h98 : w.1 98 = 0) (h103 : w.1 103 = 0) (ht : TPq w) : UR w := by
  obtain ⟨h1, ⟨h2, h3, h88⟩, h4, h5, h6, h7⟩ := h
  obtain ⟨g1, g2, g3⟩ := hi.2.2.2 ha
  obtain ⟨c1, c2, c3, H, d1, d2, d3, d4⟩ := g3
  have ts := (side1 hu.2.2.1.1 hu.2.2.1.2 h7).1
  have es : sN w = toN v := by unfold sN toN; rw [h55]
  have z0 : (0 : Int32).toInt = 0 := by decide
  have tt := hi.1.1
  have tk := hi.1.2.2.2
  have t : ∀ k, k ∈ [30, 32, 37, 38, 42, 43, 45, 48, 49, 50, 51, 54, 11, 12, 95, 96, 36] → w.2.2.1 k = v.2.2.1 k := fun k hk => hf.2.1 k (fun q => by
    simp only [List.mem_cons, List.not_mem_nil, or_false] at q hk
    omega)
  have so : ∀ p, SAC v w p := fun p => ⟨by unfold opA; rw [t 49 (by decide)], by unfold aA; rw [t 50 (by decide)], by unfold bA; rw [t 51 (by decide)]⟩
  refine ⟨hf.tb0 h5 (by decide) (by decide), h6.of (t 11 (by decide)) (t 12 (by decide)), by rw [h55]; exact ts, ?_, ?_, ht, ?_⟩
  · rw [es]
    refine ⟨by rw [t 54 (by decide)]; omega, H, ?_, ?_⟩
    · rw [t 54 (by decide)]
      intro pc q1 q2
      exact (d1 pc q1 q2).fr2 (fun p _ => (so p).1) (so pc).1 (so pc).2.1 (so pc).2.2 (SAN.of (fun k hk => t k (by
        simp only [List.mem_cons, List.not_mem_nil, or_false] at hk ⊢
        omega))) (fun _ _ => rfl) (by unfold posR at *; omega) (Nat.le_refl _)
    · rw [t 48 (by decide), t 45 (by decide), t 43 (by decide), t 54 (by decide)]
      exact d4
  · rw [es]
    intro i hi2
    rw [t 42 (by decide)] at hi2
    obtain ⟨b, b1, b2⟩ := c3 i hi2
    have := (h5.2.2.2.2.1 (toN v)).2.2.1
    exact ⟨b, by omega, by rw [t 38 (by decide)]; exact b2⟩
  · unfold WQ
    rw [h98, h103, hf.1 105 (by decide), h1 105 (by decide), t 95 (by decide), t 96 (by decide), h2, h3, z0]
    exact ⟨by decide, hu.2.2.2.2.2.2.2.1, by decide, hu.2.2.2.2.2.2.2.2.2⟩
theorem e_load150 (hN : 5000000000 ≤ N) (hu : UR u) (h : LDF u v) (hi : IVQ v T 0) (h69 : v.1 67 = 0 → ¬ v.1 69 = 0) : wp (B_load_150 N l1 v) (fun _ w => UR w ∧ (BQ u → BQ w)) := by
  have z0 : (0 : Int32).toInt = 0 := by decide
  have e171 : ∀ s : Int32, wp (B_load_171 N l1 s (sI v 1 0)) (fun _ w => UR w ∧ (BQ u → BQ w)) := by
    intro s
    unfold B_load_171
    refine wp_pu.mpr ?_
    have f0 : FX [1, 106] [] [] v (sI (sI v 1 0) 106 s) := (FX.rf.si (by decide)).si (by decide)
    have t0 := f0.tb0 h.2.2.2.1 (by decide) (by simp)
    have l0 := h.fx f0 t0 (by decide) (by simp)
    have p0 : TPq (sI (sI v 1 0) 106 s) := by
      have e : (sI (sI v 1 0) 106 s).1 1 = 0 := rfl
      unfold TPq
      rw [e, z0]
      decide
    refine wp_if.mpr ⟨fun q => ?_, fun _ => wp_some.mpr ⟨l0.ur hu p0, fun q => q.of l0.2.1.2.2⟩⟩
    have v67 : v.1 67 = 0 := q
    have av : act v := ⟨h69 v67, v67⟩
    obtain ⟨g1, g2, g3⟩ := hi.2.2.2 av
    obtain ⟨n6, n6'⟩ := g2.2.2.2.2.2.1
    have c63 : 0 ≤ (v.1 63).toInt ∧ (v.1 63).toInt ≤ 2000 := by
      have := n6 0 (by omega); have := n6 1 (by omega); have := n6 2 (by omega); have := n6 3 (by omega); have := n6 4 (by omega)
      omega
    have e55 : (sI (sI v 1 0) 106 s).1 55 = u.1 55 := l0.1 55 (by decide)
    have iv0 : IVQ (sI (sI v 1 0) 106 s) T 0 := by
      refine ⟨hi.1, t0, hi.2.2.1, fun _ => ⟨g1, ?_, g3.csm ⟨rfl, fun _ _ => rfl⟩ (Int.le_refl _)⟩⟩
      obtain ⟨n1, n2, n3, n4, n5, n6, n7⟩ := g2
      exact ⟨n1, n2, n3, n4, n5, n6, fun b hb => by
        obtain ⟨g1, g2⟩ := n7 b hb
        exact ⟨g1, g2.trans (ssz_eq (u := v) (w := sI (sI v 1 0) 106 s) (fun _ _ => rfl)).symm⟩⟩
    rw [wp_bn]
    refine wp_mono (x_accept hN t0 l0.2.2.2.2.1 (by rw [e55]; exact hu.2.2.1.1) (by rw [e55]; exact hu.2.2.1.2) c63) (fun _ w hw => wp_some.mpr ?_)
    obtain ⟨w1, w2, w3, w4, w5⟩ := hw
    exact ⟨hu.acc l0 iv0 av w1 w2 w3 w4 (by unfold TPq; rw [w1.1 1 (by decide)]; exact p0), fun q => w5 (q.of l0.2.1.2.2)⟩
  unfold B_load_150
  exact wp_pu.mpr (wp_if.mpr ⟨fun _ => e171 _, fun _ => e171 _⟩)
end RLoad
