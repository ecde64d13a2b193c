/-! What telling, local, addSlot and addVariable do to what the items keep. -/
/-- the part that is made: its slots are the last ones -/
def PQ (u : RSt) : Prop := (0 ≤ (u.1 71).toInt ∧ (u.1 71).toInt < 48 ∧ (u.1 71).toNatClampNeg / 24 = toN u) ∧ (u.2.2.1 28 (u.1 71).toNatClampNeg).toInt + (u.2.2.1 29 (u.1 71).toNatClampNeg).toInt = (u.2.2.1 27 (toN u)).toInt ∧ u.2.2.1 31 (u.1 71).toNatClampNeg = u.1 73 ∧ 0 ≤ (u.1 73).toInt ∧ (u.1 73).toInt ≤ 100
/-- a name of sort a with number b may stand -/
def GNW (u : RSt) (a b : Int32) : Prop := 0 ≤ b.toInt ∧ (a = 0 → b.toInt < 160) ∧ (a = 1 → b.toInt < 24 ∧ b.toInt < (u.2.2.1 42 (toN u)).toInt) ∧ (a = 3 → b.toInt < 8 ∧ b.toInt < (u.2.2.1 36 (toN u)).toInt) ∧ (a = 4 → b.toInt < 16 ∧ b.toInt < (u.2.2.1 37 (toN u)).toInt) ∧ (a = 5 → b.toInt < 8)
section RPut
variable {u v w : RSt} {T N k j : Nat} {o : Int} {x l1 l2 l3 l4 l5 l6 : Int32}
theorem TLD.to (h : TLD u w l1 l2) : toN w = toN u := by unfold toN; rw [h.2.1 56 (by decide)]
theorem TLD.fri (h : TLD u w l1 l2) : FRI u w := by
  obtain ⟨h1, h2, h3, h4, h5, h6, h7, h8, h9⟩ := h
  refine ⟨fun k hk => h2 k (fun z => hk ?_), fun q => by rw [h2 67 (by decide)]; exact q, fun k j hk hj => ?_, fun k hk => h9 k (fun z => hk ?_), fun q => q.of (h5 11 (by decide)) (h5 12 (by decide)), fun q => by rw [h5 54 (by decide)]; exact q⟩
  · unfold zi
    simp only [List.mem_cons, List.not_mem_nil, or_false] at z ⊢
    omega
  · rw [h5 k (fun z => hk ?_)]
    unfold zf
    simp only [List.mem_cons, List.not_mem_nil, or_false] at z ⊢
    omega
  · unfold zl
    simp only [List.mem_cons, List.not_mem_nil, or_false] at z ⊢
    omega
theorem TLD.csm (h : TLD u w l1 l2) : CSM u w := by
  refine ⟨h.to, fun k hk => h.2.2.2.2.1 k (fun z => ?_)⟩
  simp only [List.mem_cons, List.not_mem_nil, or_false] at z hk
  omega
theorem TLD.tb0 (h : TLD u w l1 l2) (ht : TB0 u) (h61 : 0 ≤ (u.1 61).toInt ∧ (u.1 61).toInt < 180) : TB0 w := by
  obtain ⟨h1, h2, h3, h4, h5, h6, h7, h8, h9⟩ := h
  have e1 : (1 : Int32).toInt = 1 := by decide
  have e61 : (u.1 61 + 1).toInt = (u.1 61).toInt + 1 := by rw [tI_add (by rw [e1]; omega) (by rw [e1]; omega), e1]
  obtain ⟨t1, t2, t3, t4, t5, t6, t7, t8, t9, t10⟩ := ht
  unfold TB0 VOK SLT PRT INT CNT
  rw [h2 72 (by decide), h2 56 (by decide), h5 10 (by decide), h5 11 (by decide), h5 12 (by decide), h5 13 (by decide), h5 15 (by decide), h5 20 (by decide), h5 21 (by decide), h5 23 (by decide), h5 28 (by decide), h5 29 (by decide), h5 30 (by decide), h5 31 (by decide), h5 33 (by decide), h5 38 (by decide), h5 39 (by decide), h5 19 (by decide), h5 27 (by decide), h5 42 (by decide), h5 37 (by decide), h5 36 (by decide), h5 48 (by decide), h3]
  exact ⟨t1, t2, t3, t4, t5, t6, by omega, t8, t9, t10⟩
theorem NUQ.tld (h : TLD u w l1 l2) (hn : NUQ u) (h6 : (u.1 62).toInt < 160) : NUQ w ∧ (w.2.2.1 19 (toN w)).toInt < (w.1 62).toInt ∧ (w.2.2.1 27 (toN w)).toInt < (w.1 62).toInt := by
  have et := h.to
  obtain ⟨h1, h2, h3, h4, h5, -, h7, h8, h9⟩ := h
  obtain ⟨n1, n2, n3, n4, n5, n6, n7⟩ := hn
  have e1 : (1 : Int32).toInt = 1 := by decide
  have e61 : (u.1 61 + 1).toInt = (u.1 61).toInt + 1 := by rw [tI_add (by rw [e1]; omega) (by rw [e1]; omega), e1]
  have e62 : (u.1 62 + 1).toInt = (u.1 62).toInt + 1 := by rw [tI_add (by rw [e1]; omega) (by rw [e1]; omega), e1]
  have t19 : w.2.2.1 19 (toN w) = u.2.2.1 19 (toN u) := by rw [et, h5 19 (by decide)]
  have t27 : w.2.2.1 27 (toN w) = u.2.2.1 27 (toN u) := by rw [et, h5 27 (by decide)]
  refine ⟨⟨by rw [h3]; omega, by rw [h3, h4]; omega, by rw [h4]; omega, by rw [t19, h4]; omega, by rw [t27, h4]; omega, ?_, ?_⟩, by rw [t19, h4]; omega, by rw [t27, h4]; omega⟩
  · unfold KNS
    rw [h2 63 (by decide), h5 64 (by decide)]
    exact n6
  · unfold BLK
    rw [et, h5 36 (by decide), h5 28 (by decide), h5 29 (by decide), h5 27 (by decide), h5 31 (by decide)]
    intro b hb
    obtain ⟨q1, q2⟩ := n7 b hb
    exact ⟨q1, by rw [q2]; exact (ssz_eq (fun i _ => by rw [h5 21 (by decide)])).symm⟩
/-- all names but the last -/
theorem GKS.tl (h : TLD u w l1 l2) (hg : GKS u) (h61 : 0 ≤ (u.1 61).toInt ∧ (u.1 61).toInt < 180) {y : RSt} (hy : toN y = toN w ∧ y.1 61 = w.1 61 ∧ y.2.2.1 59 = w.2.2.1 59 ∧ y.2.2.1 60 = w.2.2.1 60) (h42 : (w.2.2.1 42 (toN w)).toInt ≤ (y.2.2.1 42 (toN w)).toInt) (h37 : (w.2.2.1 37 (toN w)).toInt ≤ (y.2.2.1 37 (toN w)).toInt) (h36 : (w.2.2.1 36 (toN w)).toInt ≤ (y.2.2.1 36 (toN w)).toInt) (hn : GNW y l1 l2) : GKS y := by
  have et := h.to
  obtain ⟨h1, h2, h3, h4, h5, h6, h7, h8, h9⟩ := h
  obtain ⟨y1, y2, y3, y4⟩ := hy
  have e1 : (1 : Int32).toInt = 1 := by decide
  have e61 : (u.1 61 + 1).toInt = (u.1 61).toInt + 1 := by rw [tI_add (by rw [e1]; omega) (by rw [e1]; omega), e1]
  intro g hgl
  rw [y2, h3, e61] at hgl
  unfold GOK
  rw [y3, y4]
  have cn : (u.1 61).toNatClampNeg = (u.1 61).toInt.toNat := rfl
  by_cases c : g = (u.1 61).toNatClampNeg
  · subst c
    rw [h7, h8]
    obtain ⟨g0, g1, g2, g3, g4, g5⟩ := hn
    exact ⟨⟨g0, g1, g2, fun q => (g3 q).1, g4, g5⟩, fun q => (g3 q).2⟩
  · obtain ⟨⟨g0, g1, g2, g3, g4, g5⟩, g6⟩ := hg g (by omega)
    rw [h6 59 g c, h6 60 g c, y1]
    rw [et, h5 42 (by decide)] at h42
    rw [et, h5 37 (by decide)] at h37
    rw [et, h5 36 (by decide)] at h36
    rw [et]
    exact ⟨⟨g0, g1, fun q => ⟨(g2 q).1, by have := (g2 q).2; omega⟩, g3, fun q => ⟨(g4 q).1, by have := (g4 q).2; omega⟩, g5⟩, fun q => by have := g6 q; omega⟩
/-- local: one more name is told -/
theorem NUQ.loc (hn : NUQ u) (h6 : (u.1 62).toInt < 160) : NUQ (sI u 62 (u.1 62 + 1)) ∧ ((sI u 62 (u.1 62 + 1)).2.2.1 27 (toN (sI u 62 (u.1 62 + 1)))).toInt < ((sI u 62 (u.1 62 + 1)).1 62).toInt := by
  obtain ⟨n1, n2, n3, n4, n5, n6, n7⟩ := hn
  have e1 : (1 : Int32).toInt = 1 := by decide
  have e62 : (u.1 62 + 1).toInt = (u.1 62).toInt + 1 := by rw [tI_add (by rw [e1]; omega) (by rw [e1]; omega), e1]
  have s62 : (sI u 62 (u.1 62 + 1)).1 62 = u.1 62 + 1 := rfl
  have et : toN (sI u 62 (u.1 62 + 1)) = toN u := rfl
  refine ⟨⟨n1, ?_, by rw [s62]; omega, ?_, ?_, n6, ?_⟩, ?_⟩
  · show (u.1 61).toInt ≤ ((sI u 62 (u.1 62 + 1)).1 62).toInt + 15
    rw [s62]; omega
  · show (u.2.2.1 19 (toN u)).toInt ≤ _
    rw [s62]; omega
  · show (u.2.2.1 27 (toN u)).toInt ≤ _
    rw [s62]; omega
  · intro b hb
    obtain ⟨q1, q2⟩ := n7 b hb
    exact ⟨q1, q2.trans (ssz_eq (u := u) (w := sI u 62 (u.1 62 + 1)) (fun _ _ => rfl)).symm⟩
  · show (u.2.2.1 27 (toN u)).toInt < _
    rw [s62]; omega
theorem CSM.loc : CSM u (sI u 62 x) := ⟨rfl, fun _ _ => rfl⟩
theorem TB0.loc (h : TB0 u) : TB0 (sI u 62 x) := h
theorem GKS.loc (h : GKS u) : GKS (sI u 62 x) := h
theorem PQ.loc (h : PQ u) : PQ (sI u 62 x) := h
theorem ASL.to (h : ASL u w l2 l3) : toN w = toN u := by unfold toN; rw [h.2.1 56 (by decide)]
theorem ASL.csm (h : ASL u w l2 l3) : CSM u w := by
  refine ⟨h.to, fun k hk => h.2.2.2.1 k (fun z => ?_)⟩
  simp only [List.mem_cons, List.not_mem_nil, or_false] at z hk
  omega
theorem ASL.gks (h : ASL u w l2 l3) (hg : GKS u) : GKS w := by
  have et := h.to
  obtain ⟨h1, h2, h3, h4, -⟩ := h
  unfold GKS GOK
  rw [et, h2 61 (by decide), h4 59 (by decide), h4 60 (by decide), h4 42 (by decide), h4 37 (by decide), h4 36 (by decide)]
  exact hg
theorem ASL.fri (h : ASL u w l2 l3) (hp : (u.1 71).toNatClampNeg / 24 = toN u) : FRI u w := by
  have et := h.to
  obtain ⟨h1, h2, h3, h4, h5, h6, h7, h8, h9, h10, h11⟩ := h
  refine ⟨fun k hk => h2 k (fun z => hk (by rw [z]; unfold zi; decide)), fun q => by rw [h2 67 (by decide)]; exact q, fun k j hk hj => ?_, fun k hk => h11 k (fun z => hk ?_), fun q => q.of (h4 11 (by decide)) (h4 12 (by decide)), fun q => by rw [h4 54 (by decide)]; exact q⟩
  · by_cases c : k = 27 ∨ k = 29 ∨ k = 31
    · rcases c with rfl | rfl | rfl
      · have q : j / 1 ≠ toN u := hj.elim (fun z => absurd z (by decide)) id
        rw [Nat.div_one] at q
        rw [h8]
        unfold upd
        rw [if_neg q]
      · have q : j / 24 ≠ toN u := hj.elim (fun z => absurd z (by decide)) id
        rw [h9]
        unfold upd
        rw [if_neg (fun z => q (by rw [z]; exact hp))]
      · have q : j / 24 ≠ toN u := hj.elim (fun z => absurd z (by decide)) id
        rw [h10]
        unfold upd
        rw [if_neg (fun z => q (by rw [z]; exact hp))]
    · rw [h4 k (fun z => hk ?_)]
      unfold zf
      simp only [List.mem_cons, List.not_mem_nil, or_false] at z ⊢
      omega
  · unfold zl
    simp only [List.mem_cons, List.not_mem_nil, or_false] at z ⊢
    omega
/-- a slot: tables, numbers, part -/
theorem ASL.all (h : ASL u w l2 l3) (ht : TB0 u) (hn : NUQ u) (hp : PQ u) (hk : 0 ≤ l2.toInt ∧ l2.toInt ≤ 4) (hs : 1 ≤ l3.toInt ∧ l3.toInt ≤ 200) (h100 : u.1 73 + l3 ≤ 100) (h27 : (u.2.2.1 27 (toN u)).toInt < (u.1 62).toInt) : TB0 w ∧ NUQ w ∧ PQ w := by
  have et := h.to
  obtain ⟨h1, h2, h3, h4, h5, h6, h7, h8, h9, h10, h11⟩ := h
  obtain ⟨t1, t2, t3, t4, t5, t6, t7, t8, t9, t10⟩ := ht
  obtain ⟨n1, n2, n3, n4, n5, n6, n7⟩ := hn
  obtain ⟨⟨p1, p2, p3⟩, p4, p5, p6, p7⟩ := hp
  have e1 : (1 : Int32).toInt = 1 := by decide
  have e100 : (100 : Int32).toInt = 100 := by decide
  have e160 : (160 : Int32).toInt = 160 := by decide
  have e73 : (u.1 73 + l3).toInt = (u.1 73).toInt + l3.toInt := tI_add (by omega) (by omega)
  have q100 := Int32.le_iff_toInt_le.mp h100
  rw [e73, e100] at q100
  have b27 := (t5 (toN u)).2.1
  obtain ⟨r1, r2, r3, r4, r5, r6, r7, r8⟩ := t3 (u.1 71).toNatClampNeg
  have e27 : (u.2.2.1 27 (toN u) + 1).toInt = (u.2.2.1 27 (toN u)).toInt + 1 := by rw [tI_add (by rw [e1]; omega) (by rw [e1]; omega), e1]
  have e29 : (u.2.2.1 29 (u.1 71).toNatClampNeg + 1).toInt = (u.2.2.1 29 (u.1 71).toNatClampNeg).toInt + 1 := by rw [tI_add (by rw [e1]; omega) (by rw [e1]; omega), e1]
  have em : (160 * u.1 56).toInt = 160 * (u.1 56).toInt := by rw [tI_mul (by rw [e160]; omega) (by rw [e160]; omega), e160]
  have ei : (160 * u.1 56 + u.2.2.1 27 (toN u)).toInt = 160 * (u.1 56).toInt + (u.2.2.1 27 (toN u)).toInt := by rw [tI_add (by omega) (by omega), em]
  have tn : (toN u : Int) = (u.1 56).toInt := by show ((u.1 56).toInt.toNat : Int) = _; omega
  have xi : (160 * u.1 56 + u.2.2.1 27 (toN u)).toNatClampNeg = 160 * toN u + (u.2.2.1 27 (toN u)).toInt.toNat := by
    show (160 * u.1 56 + u.2.2.1 27 (toN u)).toInt.toNat = _
    omega
  have g29 : w.2.2.1 29 (u.1 71).toNatClampNeg = u.2.2.1 29 (u.1 71).toNatClampNeg + 1 := by rw [h9]; exact if_pos rfl
  have g27 : w.2.2.1 27 (toN u) = u.2.2.1 27 (toN u) + 1 := by rw [h8]; exact if_pos rfl
  have g31 : w.2.2.1 31 (u.1 71).toNatClampNeg = u.1 73 + l3 := by rw [h10]; exact if_pos rfl
  have o29 : ∀ p, p ≠ (u.1 71).toNatClampNeg → w.2.2.1 29 p = u.2.2.1 29 p := fun p hp => by rw [h9]; exact if_neg hp
  have o31 : ∀ p, p ≠ (u.1 71).toNatClampNeg → w.2.2.1 31 p = u.2.2.1 31 p := fun p hp => by rw [h10]; exact if_neg hp
  have w71 : w.1 71 = u.1 71 := h2 71 (by decide)
  have w28 : w.2.2.1 28 = u.2.2.1 28 := h4 28 (by decide)
  refine ⟨⟨?_, ?_, ?_, ?_, ?_, ?_, ?_, ?_, ?_, ?_⟩, ⟨?_, ?_, ?_, ?_, ?_, ?_, ?_⟩, ⟨?_, ?_, ?_⟩, ?_, ?_, ?_, ?_⟩
  · unfold VOK
    rw [h4 10 (by decide), h4 11 (by decide), h4 12 (by decide), h4 13 (by decide), h4 15 (by decide)]
    exact t1
  · intro y
    rw [h5, h6, h7]
    unfold upd
    by_cases c : y = (160 * u.1 56 + u.2.2.1 27 (toN u)).toNatClampNeg
    · rw [if_pos c, if_pos c, if_pos c]
      exact ⟨hk.1, hk.2, p6, by omega, by omega, by omega⟩
    · rw [if_neg c, if_neg c, if_neg c]
      exact t2 y
  · intro p
    rw [w28, h4 30 (by decide), h4 33 (by decide)]
    by_cases c : p = (u.1 71).toNatClampNeg
    · subst c
      rw [g29]
      exact ⟨r1, by omega, by omega, r4, r5, by omega, r7, r8⟩
    · rw [o29 p c]
      exact t3 p
  · unfold INT
    rw [h4 38 (by decide), h4 39 (by decide)]
    exact t4
  · intro j
    rw [h4 19 (by decide), h4 36 (by decide), h4 37 (by decide), h4 42 (by decide), h4 48 (by decide)]
    refine ⟨(t5 j).1, ?_, (t5 j).2.2⟩
    by_cases c : j = toN u
    · subst c
      rw [g27]
      omega
    · rw [h8]
      unfold upd
      rw [if_neg c]
      exact (t5 j).2.1
  · intro p
    by_cases c : p = (u.1 71).toNatClampNeg
    · subst c
      rw [g31]
      omega
    · rw [o31 p c]
      exact t6 p
  · rw [h2 61 (by decide)]; exact t7
  · rw [h2 72 (by decide)]; exact t8
  · rw [h2 56 (by decide)]; exact t9
  · rw [h2 56 (by decide)]; exact t10
  · rw [h2 61 (by decide)]; exact n1
  · rw [h2 61 (by decide), h2 62 (by decide)]; exact n2
  · rw [h2 62 (by decide)]; exact n3
  · rw [et, h4 19 (by decide), h2 62 (by decide)]; exact n4
  · rw [et, g27, h2 62 (by decide)]; omega
  · unfold KNS
    rw [h2 63 (by decide), h4 64 (by decide)]
    exact n6
  · intro b hb
    rw [et, h4 36 (by decide)] at hb
    obtain ⟨q1, q2⟩ := n7 b hb
    rw [et, w28, g27]
    obtain ⟨s1, s2, s3, -⟩ := t3 (24 * toN u + b)
    by_cases c : 24 * toN u + b = (u.1 71).toNatClampNeg
    · rw [c] at q1 q2 s1 s2 s3 ⊢
      rw [g29, g31]
      refine ⟨by omega, ?_⟩
      have en : (u.2.2.1 29 (u.1 71).toNatClampNeg + 1).toInt.toNat = (u.2.2.1 29 (u.1 71).toNatClampNeg).toInt.toNat + 1 := by omega
      rw [en, e73]
      show _ = ssz w _ _ + (w.2.2.1 21 _).toInt
      rw [ssz_eq (u := u) (fun i hi => ?_), ← q2, p5, h6]
      · have ex : 160 * toN u + (u.2.2.1 28 (u.1 71).toNatClampNeg).toInt.toNat + (u.2.2.1 29 (u.1 71).toNatClampNeg).toInt.toNat = (160 * u.1 56 + u.2.2.1 27 (toN u)).toNatClampNeg := by rw [xi]; omega
        rw [ex]
        unfold upd
        rw [if_pos rfl]
      · rw [h6]
        exact if_neg (by rw [xi]; omega)
    · rw [o29 _ c, o31 _ c]
      refine ⟨by omega, ?_⟩
      rw [q2]
      exact (ssz_eq (fun i hi => by rw [h6]; exact if_neg (by rw [xi]; omega))).symm
  · rw [w71]; exact p1
  · rw [w71]; exact p2
  · rw [w71, et]; exact p3
  · rw [w71, w28, g29, et, g27]; omega
  · rw [w71, g31, h3]
  · rw [h3]; omega
  · rw [h3]; omega
end RPut
