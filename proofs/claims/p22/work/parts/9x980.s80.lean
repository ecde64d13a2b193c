/-! Going through the text leaves the other side: what writes the tables. -/
section Side2
variable {u v w z : RSt} {N s k i : Nat} {a : Int} {P P' : RSt → Prop} {l1 l2 l3 l4 l5 l6 c p x : Int32} {l7 y : Int64} {β α : Type} {Q : β → RSt → Prop}
def kA0 (s k i : Nat) : Prop := (k ∈ [10, 11, 12, 13, 14, 15, 20, 21, 22, 23] → i / 160 = s) ∧ (k ∈ [28, 29, 30, 31, 32, 33, 38, 39] → i / 24 = s) ∧ (k ∈ [43, 44, 45] → i / 8 = s) ∧ (k ∈ [19, 27, 36, 37, 42, 48] → i = s)
def kB0 (s k i : Nat) : Prop := (k ∈ [16, 17, 18, 24, 25, 26] → i / 160 = s) ∧ (k ∈ [34, 35, 40, 41] → i / 24 = s) ∧ (k ∈ [46, 47] → i / 8 = s)
theorem sd_A (h : sd s u z) (hk : kA0 s k i) : sd s u (sA z k i x) := by
  have e : ∀ k' j, ¬ (k' = k ∧ j = i) → (sA z k i x).2.2.1 k' j = z.2.2.1 k' j := by
    intro k' j hn
    show (if k' = k then upd (z.2.2.1 k) i x else z.2.2.1 k') j = _
    by_cases q : k' = k
    · rw [if_pos q, q]
      show (if j = i then x else z.2.2.1 k j) = _
      rw [if_neg (fun q2 => hn ⟨q, q2⟩)]
    · rw [if_neg q]
  obtain ⟨h1, h2, h3, h4⟩ := hk
  refine sd_tr h ⟨fun k' hk' j hj => e k' j (fun q => hj ?_), fun k' hk' j hj => e k' j (fun q => hj ?_), fun k' hk' j hj => e k' j (fun q => hj ?_), fun k' hk' j hj => e k' j (fun q => hj ?_), fun _ _ _ _ => rfl, fun _ _ _ _ => rfl, fun _ _ _ _ => rfl⟩
  · rw [q.2]; exact h1 (by rw [← q.1]; exact hk')
  · rw [q.2]; exact h2 (by rw [← q.1]; exact hk')
  · rw [q.2]; exact h3 (by rw [← q.1]; exact hk')
  · rw [q.2]; exact h4 (by rw [← q.1]; exact hk')
theorem sd_B (h : sd s u z) (hk : kB0 s k i) : sd s u (sB z k i y) := by
  have e : ∀ k' j, ¬ (k' = k ∧ j = i) → (sB z k i y).2.2.2 k' j = z.2.2.2 k' j := by
    intro k' j hn
    show (if k' = k then vp_updL (z.2.2.2 k) i y else z.2.2.2 k') j = _
    by_cases q : k' = k
    · rw [if_pos q, q]
      show (if j = i then y else z.2.2.2 k j) = _
      rw [if_neg (fun q2 => hn ⟨q, q2⟩)]
    · rw [if_neg q]
  obtain ⟨h1, h2, h3⟩ := hk
  refine sd_tr h ⟨fun _ _ _ _ => rfl, fun _ _ _ _ => rfl, fun _ _ _ _ => rfl, fun _ _ _ _ => rfl, fun k' hk' j hj => e k' j (fun q => hj ?_), fun k' hk' j hj => e k' j (fun q => hj ?_), fun k' hk' j hj => e k' j (fun q => hj ?_)⟩
  · rw [q.2]; exact h1 (by rw [← q.1]; exact hk')
  · rw [q.2]; exact h2 (by rw [← q.1]; exact hk')
  · rw [q.2]; exact h3 (by rw [← q.1]; exact hk')
theorem kA_160 (hk : k ∈ [10, 11, 12, 13, 14, 15, 20, 21, 22, 23]) (hi : i / 160 = s) : kA0 s k i := by
  unfold kA0
  simp only [List.mem_cons, List.not_mem_nil, or_false] at hk ⊢
  exact ⟨fun _ => hi, fun q => by omega, fun q => by omega, fun q => by omega⟩
theorem kA_24 (hk : k ∈ [28, 29, 30, 31, 32, 33, 38, 39]) (hi : i / 24 = s) : kA0 s k i := by
  unfold kA0
  simp only [List.mem_cons, List.not_mem_nil, or_false] at hk ⊢
  exact ⟨fun q => by omega, fun _ => hi, fun q => by omega, fun q => by omega⟩
theorem kA_8 (hk : k ∈ [43, 44, 45]) (hi : i / 8 = s) : kA0 s k i := by
  unfold kA0
  simp only [List.mem_cons, List.not_mem_nil, or_false] at hk ⊢
  exact ⟨fun q => by omega, fun q => by omega, fun _ => hi, fun q => by omega⟩
theorem kA_1 (hk : k ∈ [19, 27, 36, 37, 42, 48]) (hi : i = s) : kA0 s k i := by
  unfold kA0
  simp only [List.mem_cons, List.not_mem_nil, or_false] at hk ⊢
  exact ⟨fun q => by omega, fun q => by omega, fun q => by omega, fun _ => hi⟩
theorem kB_160 (hk : k ∈ [16, 17, 18, 24, 25, 26]) (hi : i / 160 = s) : kB0 s k i := by
  unfold kB0
  simp only [List.mem_cons, List.not_mem_nil, or_false] at hk ⊢
  exact ⟨fun _ => hi, fun q => by omega, fun q => by omega⟩
theorem kB_24 (hk : k ∈ [34, 35, 40, 41]) (hi : i / 24 = s) : kB0 s k i := by
  unfold kB0
  simp only [List.mem_cons, List.not_mem_nil, or_false] at hk ⊢
  exact ⟨fun q => by omega, fun _ => hi, fun q => by omega⟩
theorem kB_8 (hk : k ∈ [46, 47]) (hi : i / 8 = s) : kB0 s k i := by
  unfold kB0
  simp only [List.mem_cons, List.not_mem_nil, or_false] at hk ⊢
  exact ⟨fun q => by omega, fun q => by omega, fun _ => hi⟩
/-- an index of the side s -/
theorem ix_s {m : Int32} {n : Nat} (hm : m.toInt = (n : Int)) (hn : 0 < n) (hn2 : n ≤ 1000) {q : Int32} (hq : q.toInt = (s : Int)) (hs : s < 2) (h0 : 0 ≤ x.toInt) (h1 : x.toInt < n) : (m * q + x).toNatClampNeg / n = s ∧ (m * q + x).toInt = n * s + x.toInt := by
  have e0 : (0 : Int32).toInt = 0 := by decide
  have e1 : (1 : Int32).toInt = 1 := by decide
  have em : (m * q).toInt = (n * s : Nat) := by
    rcases (show s = 0 ∨ s = 1 by omega) with rfl | rfl
    · have : q = 0 := tI_eq.mpr (by rw [hq, e0]; rfl)
      rw [this, Int32.mul_zero, e0]
      simp
    · have : q = 1 := tI_eq.mpr (by rw [hq, e1]; rfl)
      rw [this, Int32.mul_one, hm]
      simp
  have hns : n * s ≤ 1000 := by
    rcases (show s = 0 ∨ s = 1 by omega) with rfl | rfl
    · simp
    · simpa using hn2
  have e : (m * q + x).toInt = (n * s : Nat) + x.toInt := by rw [tI_add (by omega) (by omega), em]
  refine ⟨?_, by rw [e]; simp⟩
  show (m * q + x).toInt.toNat / n = s
  have e2 : (m * q + x).toInt.toNat = x.toInt.toNat + n * s := by omega
  rw [e2, Nat.add_mul_div_left _ _ hn, Nat.div_eq_of_lt (by omega)]
  omega
theorem cb10 (h : CB 1 s z) : CB 0 s z := by
  unfold CB at h ⊢
  obtain ⟨⟨g1, g2⟩, ⟨g3, g4⟩, g5⟩ := h
  exact ⟨⟨g1, by omega⟩, ⟨g3, by omega⟩, g5⟩
/-- a variable is put -/
theorem x_av (hs : s < 2) (h : tv s (CB 1 s) v u) : pp (F_addVariable N l1 l2 l3 l4 l5 l6 l7 u) (fun _ w => tv s (CB 0 s) v w) := by
  have e1 : (1 : Int32).toInt = 1 := by decide
  have e160 : (160 : Int32).toInt = ((160 : Nat) : Int) := by decide
  have b51 : ∀ z, tv s (CB 1 s) v z → pp (B_addVariable_51 N l1 l2 l3 l4 l5 l6 l7 z) (fun _ w => tv s (CB 0 s) v w) := by
    intro z hz
    unfold B_addVariable_51
    refine pp_if (fun q => pp_some (tv_m hz cb10)) (fun q => pp_if (fun q2 => ?_) (fun q2 => pp_some (tv_m hz cb10)))
    have cb := hz.2.2 ⟨q, q2⟩
    have n56 := t_in (by omega) hz.2.1
    unfold CB at cb
    obtain ⟨⟨g1, g2⟩, ⟨g3, g4⟩, g5, g6⟩ := cb
    refine pp_rd ?_
    rw [n56]
    obtain ⟨hi, -⟩ := ix_s e160 (by omega) (by omega) hz.2.1 hs g1 (by omega)
    have fin : ∀ (y2 : Int32) (zz : RSt), sd s v zz → (∀ k, k ∉ [63] → zz.1 k = z.1 k) → (∀ k, k ∈ [19, 27, 36, 37, 42, 48] → zz.2.2.1 k = z.2.2.1 k) → pp (B_addVariable_202 N l3 l4 (160 * z.1 56 + z.2.2.1 19 s) y2 zz) (fun _ w => tv s (CB 0 s) v w) := by
      intro y2 zz f1 f2 f3
      have b219 : ∀ (c1 c2 : Int32) (z5 : RSt), sd s v z5 → (∀ k, k ∉ [63] → z5.1 k = z.1 k) → (∀ k, k ∈ [19, 27, 36, 37, 42, 48] → z5.2.2.1 k = z.2.2.1 k) → pp (B_addVariable_219 N c1 c2 z5) (fun _ w => tv s (CB 0 s) v w) := by
        intro c1 c2 z5 f1 f2 f3
        unfold B_addVariable_219
        have m56 : (z5.1 56).toNatClampNeg = s := by rw [f2 56 (by decide)]; exact n56
        refine pp_pu (pp_rd (pp_wr (pp_some ?_)))
        have m56' : ((sI z5 63 (c1 + c2)).1 56).toNatClampNeg = s := m56
        rw [m56']
        refine ⟨sd_A (z := sI z5 63 (c1 + c2)) f1 (kA_1 (by decide) rfl), by show (z5.1 56).toInt = _; rw [f2 56 (by decide)]; exact hz.2.1, fun _ => ?_⟩
        have e19 : (z5.2.2.1 19 s + 1).toInt = (z.2.2.1 19 s).toInt + 1 := by rw [f3 19 (by decide), tI_add (by rw [e1]; omega) (by rw [e1]; omega), e1]
        show (0 ≤ (upd (z5.2.2.1 19) s (z5.2.2.1 19 s + 1) s).toInt ∧ (upd (z5.2.2.1 19) s (z5.2.2.1 19 s + 1) s).toInt + 0 ≤ (z5.1 62).toInt) ∧ (0 ≤ (z5.2.2.1 27 s).toInt ∧ (z5.2.2.1 27 s).toInt + 0 ≤ (z5.1 62).toInt) ∧ (z5.1 62).toInt ≤ 160 ∧ (0 ≤ (z5.2.2.1 36 s).toInt ∧ (z5.2.2.1 36 s).toInt ≤ 8) ∧ (0 ≤ (z5.2.2.1 37 s).toInt ∧ (z5.2.2.1 37 s).toInt ≤ 16) ∧ (0 ≤ (z5.2.2.1 42 s).toInt ∧ (z5.2.2.1 42 s).toInt ≤ 24) ∧ (0 ≤ (z5.2.2.1 48 s).toInt ∧ (z5.2.2.1 48 s).toInt ≤ 8)
        have eu : upd (z5.2.2.1 19) s (z5.2.2.1 19 s + 1) s = z5.2.2.1 19 s + 1 := if_pos rfl
        rw [eu, e19, f2 62 (by decide), f3 27 (by decide), f3 36 (by decide), f3 37 (by decide), f3 42 (by decide), f3 48 (by decide)]
        exact ⟨⟨by omega, by omega⟩, ⟨g3, by omega⟩, g5, g6⟩
      unfold B_addVariable_202
      refine pp_wr ?_
      have hA : ∀ k, k ∈ [19, 27, 36, 37, 42, 48] → (sA zz 15 (160 * z.1 56 + z.2.2.1 19 s).toNatClampNeg y2).2.2.1 k = z.2.2.1 k := by
        intro k hk
        show (if k = 15 then _ else zz.2.2.1 k) = _
        rw [if_neg (fun y => by rw [y] at hk; exact absurd hk (by decide))]
        exact f3 k hk
      exact pp_if (fun _ => b219 _ _ _ (sd_A f1 (kA_160 (by decide) hi)) f2 hA) (fun _ => b219 _ _ _ (sd_A f1 (kA_160 (by decide) hi)) f2 hA)
    refine pp_wr (pp_wr (pp_wr (pp_wr (pp_wr (pp_wr (pp_rd (pp_wr (pp_rd (pp_wr ?_)))))))))
    have sdF : ∀ {b1 b2 : Int64}, sd s v (sB (sB (sB (sA (sA (sA (sA (sA z 10 (160 * z.1 56 + z.2.2.1 19 s).toNatClampNeg l2) 12 (160 * z.1 56 + z.2.2.1 19 s).toNatClampNeg l3) 11 (160 * z.1 56 + z.2.2.1 19 s).toNatClampNeg l4) 13 (160 * z.1 56 + z.2.2.1 19 s).toNatClampNeg (vp_nar .boolean l5)) 14 (160 * z.1 56 + z.2.2.1 19 s).toNatClampNeg l6) 16 (160 * z.1 56 + z.2.2.1 19 s).toNatClampNeg l7) 17 (160 * z.1 56 + z.2.2.1 19 s).toNatClampNeg b1) 18 (160 * z.1 56 + z.2.2.1 19 s).toNatClampNeg b2) := sd_B (sd_B (sd_B (sd_A (sd_A (sd_A (sd_A (sd_A hz.1 (kA_160 (by decide) hi)) (kA_160 (by decide) hi)) (kA_160 (by decide) hi)) (kA_160 (by decide) hi)) (kA_160 (by decide) hi)) (kB_160 (by decide) hi)) (kB_160 (by decide) hi)) (kB_160 (by decide) hi)
    have rows : ∀ {b1 b2 : Int64} (k : Nat), k ∈ [19, 27, 36, 37, 42, 48] → (sB (sB (sB (sA (sA (sA (sA (sA z 10 (160 * z.1 56 + z.2.2.1 19 s).toNatClampNeg l2) 12 (160 * z.1 56 + z.2.2.1 19 s).toNatClampNeg l3) 11 (160 * z.1 56 + z.2.2.1 19 s).toNatClampNeg l4) 13 (160 * z.1 56 + z.2.2.1 19 s).toNatClampNeg (vp_nar .boolean l5)) 14 (160 * z.1 56 + z.2.2.1 19 s).toNatClampNeg l6) 16 (160 * z.1 56 + z.2.2.1 19 s).toNatClampNeg l7) 17 (160 * z.1 56 + z.2.2.1 19 s).toNatClampNeg b1) 18 (160 * z.1 56 + z.2.2.1 19 s).toNatClampNeg b2).2.2.1 k = z.2.2.1 k := by
      intro b1 b2 k hk
      have n : ∀ m, m ∈ [10, 11, 12, 13, 14] → k ≠ m := fun m hm e => by
        rw [e] at hk
        simp only [List.mem_cons, List.not_mem_nil, or_false] at hk hm
        omega
      show (if k = 14 then _ else if k = 13 then _ else if k = 11 then _ else if k = 12 then _ else if k = 10 then _ else z.2.2.1 k) = _
      rw [if_neg (n 14 (by decide)), if_neg (n 13 (by decide)), if_neg (n 11 (by decide)), if_neg (n 12 (by decide)), if_neg (n 10 (by decide))]
    exact pp_if (fun _ => pp_if (fun _ => fin _ _ sdF (fun _ _ => rfl) rows) (fun _ => fin _ _ sdF (fun _ _ => rfl) rows)) (fun _ => fin _ _ sdF (fun _ _ => rfl) rows)
  unfold F_addVariable B_addVariable_0
  refine pp_if (fun _ => b51 _ h) (fun _ => pp_if (fun _ => b51 _ h) (fun _ => pp_rd (pp_wr (pp_rd ?_))))
  have h4 : tv s (CB 1 s) v (sA u 64 l2.toNatClampNeg (u.2.2.1 64 l2.toNatClampNeg + l4)) := tv_kl stb_CB h (fl_sA (by decide) kl_rf)
  have b41 : ∀ c1 : Int32, pp (B_addVariable_41 N l1 l2 l3 l4 l5 l6 l7 c1 (sA u 64 l2.toNatClampNeg (u.2.2.1 64 l2.toNatClampNeg + l4))) (fun _ w => tv s (CB 0 s) v w) := by
    intro c1
    unfold B_addVariable_41
    exact pp_rd (t_bn stb_CB kl_F_wrong h4 (fun _ z hz => b51 z hz))
  exact pp_if (fun _ => b41 0) (fun _ => b41 1)
end Side2
