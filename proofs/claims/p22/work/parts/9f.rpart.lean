/-! A part begins. -/
/-- how the code's tables stand when the part with number wi is begun: a block, or a function -/
def PBG (u z : RSt) (wi : Nat) : Prop := toN z = toN u ∧ (∀ k, k ∈ [38, 42, 43, 45, 48, 49, 50, 51, 54] → z.2.2.1 k = u.2.2.1 k) ∧ (∀ j, j ≠ wi → z.2.2.1 30 j = u.2.2.1 30 j ∧ z.2.2.1 32 j = u.2.2.1 32 j) ∧ ((z.1 70 = 2 ∧ (wi : Int) = 24 * toN u + (u.2.2.1 36 (toN u)).toInt ∧ (u.2.2.1 36 (toN u)).toInt < 8 ∧ (z.2.2.1 36 (toN u)).toInt = (u.2.2.1 36 (toN u)).toInt + 1 ∧ (z.2.2.1 37 (toN u)).toInt = (u.2.2.1 37 (toN u)).toInt) ∨ (z.1 70 = 3 ∧ (wi : Int) = 24 * toN u + 8 + (u.2.2.1 37 (toN u)).toInt ∧ (u.2.2.1 37 (toN u)).toInt < 16 ∧ (z.2.2.1 36 (toN u)).toInt = (u.2.2.1 36 (toN u)).toInt ∧ (z.2.2.1 37 (toN u)).toInt = (u.2.2.1 37 (toN u)).toInt + 1))
section RPart
variable {u0 u v w y z : RSt} {T N k j r wi : Nat} {o o' e : Int} {x b s l1 l2 l3 l4 l5 l6 op : Int32} {H : Nat → Sh} {α : List (Int × Int)}
theorem CDQ.begin (h : CDQ u) (ht : TB0 u) (hz : PBG u z wi) (h32 : (z.2.2.1 32 wi).toInt = posR z) : INB z ∧ ∃ H, CD2 z H := by
  obtain ⟨h1, h2, h3, H, h4, h5, h6, h7⟩ := h
  obtain ⟨et, a2, a3, a4⟩ := hz
  have c36 := (ht.2.2.2.2.1 (toN u)).2.2.1
  have c37 := (ht.2.2.2.2.1 (toN u)).2.2.2.1
  have pw : posR z = posR u := by unfold posR; rw [et, a2 54 (by decide)]
  have bw : bsR z = bsR u := by unfold bsR; rw [et]
  have e8 : bsR u / 8000 = toN u := by unfold bsR; omega
  have so : ∀ p, opA z p = opA u p := fun p => by unfold opA; rw [a2 49 (by decide)]
  have i38 : ∀ i : Nat, (i : Int) < (u.2.2.1 42 (toN u)).toInt → (u.2.2.1 38 (24 * toN u + i)).toNatClampNeg ≠ wi := by
    intro i hi
    obtain ⟨b, b1, b2⟩ := h3 i hi
    have : (u.2.2.1 38 (24 * toN u + i)).toNatClampNeg = (u.2.2.1 38 (24 * toN u + i)).toInt.toNat := rfl
    rcases a4 with ⟨-, q, -⟩ | ⟨-, q, -⟩ <;> omega
  have en : ∀ {e : Int32} {m : Nat}, ENT u H (bsR u) (posR u) e m → EN2 z H e m := by
    intro e m q
    unfold EN2
    rw [bw, pw]
    exact Or.inl (q.fq (fun p _ => so p) (fun _ _ => rfl) (Nat.le_refl _))
  refine ⟨?_, H, ?_, ?_, ?_, ?_, ?_⟩
  · intro i hi
    rw [et, a2 42 (by decide)] at hi
    obtain ⟨b, b1, b2⟩ := h3 i hi
    refine ⟨b, ?_, by rw [et, a2 38 (by decide)]; exact b2⟩
    rw [et]
    rcases a4 with ⟨-, -, -, q, -⟩ | ⟨-, -, -, q, -⟩ <;> omega
  · rw [bw, pw]
    intro pc q1 q2
    refine (h4 pc q1 q2).fr2 (fun p _ => so p) (so pc) (by unfold aA; rw [a2 50 (by decide)]) (by unfold bA; rw [a2 51 (by decide)]) ⟨fun j g1 g2 => a3 j ?_, fun i g1 g2 => ⟨by rw [a2 38 (by decide)], (a3 _ ?_).2⟩, ?_, ?_⟩ (fun _ _ => rfl) (by omega) (Nat.le_refl _)
    · rw [e8] at g1 g2
      rcases a4 with ⟨-, q, q', -⟩ | ⟨-, q, -⟩ <;> omega
    · rw [e8] at g1 g2
      have := i38 (i - 24 * toN u) (by omega)
      rw [show 24 * toN u + (i - 24 * toN u) = i by omega] at this
      exact this
    · rw [e8]
      rcases a4 with ⟨-, -, -, -, q⟩ | ⟨-, -, -, -, q⟩ <;> omega
    · rw [e8, a2 42 (by decide)]
      exact Int.le_refl _
  · intro f hf
    rw [et] at hf ⊢
    by_cases c : 24 * toN u + 8 + f = wi
    · rcases a4 with ⟨-, q, q', -⟩ | ⟨q0, q, -⟩
      · omega
      · exact Or.inr ⟨by rw [c]; exact h32, by unfold md; rw [q0]; decide⟩
    · rw [(a3 _ c).2]
      refine en (h5 f ?_)
      rcases a4 with ⟨-, q1, -, -, q⟩ | ⟨-, q1, -, -, q⟩ <;> omega
  · intro f hf
    rw [et] at hf ⊢
    by_cases c : 24 * toN u + f = wi
    · rcases a4 with ⟨q0, q, -⟩ | ⟨q0, q, -, q3, -⟩
      · exact Or.inr ⟨by rw [c]; exact h32, by unfold md; rw [q0]; decide⟩
      · omega
    · rw [(a3 _ c).2]
      refine en (h6 f ?_)
      rcases a4 with ⟨-, q1, -, q, -⟩ | ⟨-, q1, -, q, -⟩ <;> omega
  · intro f hf
    rw [et, a2 48 (by decide)] at hf
    rw [et, a2 45 (by decide), a2 43 (by decide)]
    refine ⟨Or.inl ?_, (h7 f hf).2⟩
    have q := (h7 f hf).1
    unfold TE at q ⊢
    rw [bw, pw]
    exact q
  · intro i hi
    rw [et, a2 42 (by decide)] at hi
    rw [et, a2 38 (by decide), (a3 _ (i38 i hi)).2, bw, pw]
    obtain ⟨b, b1, b2⟩ := h3 i hi
    have e38 : (u.2.2.1 38 (24 * toN u + i)).toNatClampNeg = 24 * toN u + b := by show (u.2.2.1 38 (24 * toN u + i)).toInt.toNat = _; omega
    rw [e38]
    exact (h6 b b1).fq (fun p _ => so p) (fun _ _ => rfl) (Nat.le_refl _)
theorem BDI.orq (h : BDI u0 y T o s) (ho : ORQ y w T o) : BDI u0 w T o s := by
  obtain ⟨h1, h2, h3, h4, h5, h6, h7, h8⟩ := id h
  obtain ⟨⟨i1, i2, i3, i4⟩, f1, c1, k1, t1⟩ := ho
  have e70 : w.1 70 = y.1 70 := t1 70 (by decide)
  refine ⟨i1, i2, i3, h4.tr f1, by omega, by rw [t1 74 (by decide)]; exact h6, by rw [e70]; exact h7, fun ha => ?_⟩
  obtain ⟨g1, g2, g3, g4, g5, g6⟩ := h8 (f1.ac ha)
  have cs := c1 ha
  refine ⟨(i4 ha).1, (i4 ha).2, g3.of cs.1 (fun k hk => cs.2 k (by
      simp only [List.mem_cons, List.not_mem_nil, or_false] at hk ⊢
      omega)), g4.csm cs (by unfold md; rw [e70]), ?_, ?_⟩
  · rw [cs.1, cs.2 54 (by decide)]
    omega
  · rw [e70, t1 71 (by decide)]
    exact g6
theorem x_locals (hN : 5000000000 ≤ N) (h : BDI u0 y T 1 s) (hq : act y → PQ y) (hs : (l1 = 0 → s = 2) ∧ (¬ l1 = 0 → s = 3)) : wp (LP_part_396 N N (l1, l2, y)) (fun _ w => IVQ w T 0 ∧ FRI u0 w ∧ kP u0 < kP w) := by
  unfold LP_part_396
  refine wp_lp (fun (d : Nat) (x : Int32 × Int32 × RSt) => x.1 = l1 ∧ x.2.1 = l2 ∧ BDI u0 x.2.2 T 1 s ∧ (act x.2.2 → PQ x.2.2) ∧ d = (T - kP x.2.2).toNat + (if x.2.2.1 67 = 0 then 1 else 0)) ?_ _ ((T - kP y).toNat + (if y.1 67 = 0 then 1 else 0)) _ (by have := h.1.1; have := h.1.2.2.1; split <;> omega) ⟨rfl, rfl, h, hq, rfl⟩
  rintro d R ⟨m1, m2, z⟩ ⟨hm1, hm2, hz, hzq, hd⟩ ih
  have hm1 : m1 = l1 := hm1
  have hm2 : m2 = l2 := hm2
  subst hm1 hm2
  dsimp only at hz hzq hd ih ⊢
  unfold B_part_396
  rw [wp_bn]
  refine wp_mono (x_is hz.1) (fun r z' hz' => ?_)
  obtain ⟨rfl, hr⟩ := hz'
  refine wp_if.mpr ⟨fun _ => x_stats hN hz hs, fun c => ?_⟩
  obtain ⟨-, c1, c2⟩ : r = 1 ∧ z'.1 67 = 0 ∧ tyR z' = 100 := by
    rcases hr with q | ⟨q, -⟩
    · exact q
    · exact absurd q c
  rw [wp_bn]
  refine wp_mono (x_variables hN ⟨hz.1, hz.2.1, hz.2.2.1, fun ha => ⟨(hz.2.2.2.2.2.2.2 ha).1, (hz.2.2.2.2.2.2.2 ha).2.1⟩⟩ (by decide) (by decide) (by rw [c2]; unfold isT; decide) (Or.inl rfl) (fun _ => hzq)) (fun _ w hw => ?_)
  obtain ⟨w1, w2, w3⟩ := hw
  have hb := hz.orq w1
  refine ih _ (m1, m2, w) ?_ ⟨rfl, rfl, hb, w2 (by decide), rfl⟩
  dsimp only
  rw [hd, if_pos c1]
  have k1 := hb.1.2.2.2
  have k2 := w1.2.2.2.1
  by_cases q : w.1 67 = 0
  · rw [if_pos q]
    have := w3 q
    omega
  · rw [if_neg q]
    omega
end RPart
