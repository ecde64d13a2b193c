/-! What addVariable does to what the items keep. -/
section RPut2
variable {u v w : RSt} {T N k j : Nat} {o : Int} {x l1 l2 l3 l4 l5 l6 : Int32}
theorem AVR.to (h : AVR u w l2 l3 l4 l5 l6) : toN w = toN u := by unfold toN; rw [h.2.1 56 (by decide)]
theorem AVR.csm (h : AVR u w l2 l3 l4 l5 l6) : CSM u w := by
  refine ⟨h.to, fun k hk => h.2.2.2.1 k (fun z => ?_)⟩
  simp only [List.mem_cons, List.not_mem_nil, or_false] at z hk
  omega
theorem AVR.gks (h : AVR u w l2 l3 l4 l5 l6) (hg : GKS u) : GKS w := by
  have et := h.to
  obtain ⟨h1, h2, h3, h4, -⟩ := h
  unfold GKS GOK
  rw [et, h2 61 (by decide), h4 59 (by decide), h4 60 (by decide), h4 42 (by decide), h4 37 (by decide), h4 36 (by decide)]
  exact hg
theorem AVR.fri (h : AVR u w l2 l3 l4 l5 l6) (hs : 0 ≤ l3.toInt ∧ (1 < l3.toInt → l4 = 1)) : FRI u w := by
  have et := h.to
  obtain ⟨h1, h2, h3, h4, h5, h6, h7, h8, h9, h10, h11⟩ := h
  refine ⟨fun k hk => h2 k (fun z => hk (by rw [z]; unfold zi; decide)), fun q => by rw [h2 67 (by decide)]; exact q, fun k j hk hj => ?_, fun k hk => h11 k (fun z => hk ?_), fun q y => ?_, fun q => by rw [h4 54 (by decide)]; exact q⟩
  · by_cases c : k = 19
    · subst c
      have q : j / 1 ≠ toN u := hj.elim (fun z => absurd z (by decide)) id
      rw [Nat.div_one] at q
      rw [h10]
      unfold upd
      rw [if_neg q]
    · rw [h4 k (fun z => hk ?_)]
      unfold zf
      simp only [List.mem_cons, List.not_mem_nil, or_false] at z ⊢
      omega
  · unfold zl
    simp only [List.mem_cons, List.not_mem_nil, or_false] at z ⊢
    omega
  · rw [h6, h7]
    unfold upd
    by_cases c : y = viX u
    · rw [if_pos c, if_pos c]; exact hs
    · rw [if_neg c, if_neg c]; exact q y
/-- the numbers of the kinds, raised within their limit -/
theorem kns_up {f g : Nat → Int32} (k : Nat) (hk : k < 5) (n : Int) (hg : ∀ j, (g j).toInt = if j = k then (f j).toInt + n else (f j).toInt) : (g 0).toInt + (g 1).toInt + (g 2).toInt + (g 3).toInt + (g 4).toInt = (f 0).toInt + (f 1).toInt + (f 2).toInt + (f 3).toInt + (f 4).toInt + n := by
  rw [hg 0, hg 1, hg 2, hg 3, hg 4]
  rcases (show k = 0 ∨ k = 1 ∨ k = 2 ∨ k = 3 ∨ k = 4 by omega) with rfl | rfl | rfl | rfl | rfl <;> simp <;> omega
theorem AVR.all (h : AVR u w l2 l3 l4 l5 l6) (h64 : w.2.2.1 64 = (n64 u l2 l3 l4).2.2.1 64) (ha : act u) (ht : TB0 u) (hn : NUQ u) (hk : 0 ≤ l2.toInt ∧ l2.toInt ≤ 4) (hs : 1 ≤ l4.toInt ∧ l4.toInt ≤ 200) (h400 : ¬ (2 : Int32) ≤ l3 → u.2.2.1 64 l2.toNatClampNeg + l4 ≤ 400) (h3 : l3 = 0 ∨ l3 = 1 ∨ ((l3 = 2 ∨ l3 = 3) ∧ l5 = 0 ∧ l4 = 1 ∧ 0 ≤ l6.toInt ∧ l6.toInt + byK l2.toInt ≤ 64)) (h19 : (u.2.2.1 19 (toN u)).toInt < (u.1 62).toInt) : TB0 w ∧ NUQ w := by
  have et := h.to
  obtain ⟨h1, h2, a3, h4, h5, h6, h7, h8, h9, h10, h11⟩ := h
  obtain ⟨t1, t2, t3, t4, t5, t6, t7, t8, t9, t10⟩ := ht
  obtain ⟨n1, n2, n3, n4, n5, ⟨n6, n6'⟩, n7⟩ := hn
  have e1 : (1 : Int32).toInt = 1 := by decide
  have e2 : (2 : Int32).toInt = 2 := by decide
  have e400 : (400 : Int32).toInt = 400 := by decide
  have e5 : (5000 : Int32).toInt = 5000 := by decide
  have e6 : (6000 : Int32).toInt = 6000 := by decide
  have c63 : 0 ≤ (u.1 63).toInt ∧ (u.1 63).toInt ≤ 2000 := by
    have := n6 0 (by omega); have := n6 1 (by omega); have := n6 2 (by omega); have := n6 3 (by omega); have := n6 4 (by omega)
    omega
  have b19 := (t5 (toN u)).1
  have e19 : (u.2.2.1 19 (toN u) + 1).toInt = (u.2.2.1 19 (toN u)).toInt + 1 := by rw [tI_add (by rw [e1]; omega) (by rw [e1]; omega), e1]
  have g19 : w.2.2.1 19 (toN u) = u.2.2.1 19 (toN u) + 1 := by rw [h10]; exact if_pos rfl
  have z0 : ¬ (2 : Int32) ≤ 0 := by decide
  have z1 : ¬ (2 : Int32) ≤ 1 := by decide
  have z2 : (2 : Int32) ≤ 2 := by decide
  have z3 : (2 : Int32) ≤ 3 := by decide
  have hb : 1 ≤ byK l2.toInt ∧ byK l2.toInt ≤ 8 := by unfold byK; split <;> (try split) <;> (try split) <;> omega
  have low : (l3 = 0 ∨ l3 = 1) → ¬ (2 : Int32) ≤ l3 := by rintro (q | q) <;> rw [q] <;> assumption
  have vok : ∀ y, VOK w y := by
    intro y
    unfold VOK
    rw [h5, h6, h7, h8, h9]
    unfold upd
    by_cases c : y = viX u
    · rw [if_pos c, if_pos c, if_pos c, if_pos c, if_pos c]
      refine ⟨hk.1, hk.2, by omega, by omega, fun q => ?_, fun q => ?_⟩
      · rcases h3 with rfl | rfl | ⟨rfl | rfl, -⟩
        · unfold vcl; rw [if_neg z0]; omega
        · unfold vcl; rw [if_neg z1]; omega
        · exact absurd q (by decide)
        · exact absurd q (by decide)
      · rcases h3 with rfl | rfl | ⟨rfl | rfl, k5, k4, k0, k6⟩
        · exact absurd (Or.inl (by decide)) q
        · exact absurd (Or.inr (by decide)) q
        · refine ⟨by rw [k5]; exact vn_0, Or.inl ⟨by decide, ?_⟩⟩
          unfold vcl
          rw [if_pos z2, if_pos rfl, tI_add (by omega) (by omega), e6]
          omega
        · refine ⟨by rw [k5]; exact vn_0, Or.inr ⟨by decide, ?_⟩⟩
          unfold vcl
          rw [if_pos z3, if_neg (by decide), tI_add (by omega) (by omega), e5]
          omega
    · rw [if_neg c, if_neg c, if_neg c, if_neg c, if_neg c]
      exact t1 y
  refine ⟨⟨vok, ?_, ?_, ?_, ?_, ?_, ?_, ?_, ?_, ?_⟩, ⟨?_, ?_, ?_, ?_, ?_, ?_, ?_⟩⟩
  · unfold SLT
    rw [h4 20 (by decide), h4 21 (by decide), h4 23 (by decide)]
    exact t2
  · unfold PRT
    rw [h4 28 (by decide), h4 29 (by decide), h4 30 (by decide), h4 33 (by decide)]
    exact t3
  · unfold INT
    rw [h4 38 (by decide), h4 39 (by decide)]
    exact t4
  · intro j
    rw [h4 27 (by decide), h4 36 (by decide), h4 37 (by decide), h4 42 (by decide), h4 48 (by decide)]
    refine ⟨?_, (t5 j).2⟩
    by_cases c : j = toN u
    · subst c
      rw [g19]
      omega
    · rw [h10]
      unfold upd
      rw [if_neg c]
      exact (t5 j).1
  · rw [h4 31 (by decide)]; exact t6
  · rw [h2 61 (by decide)]; exact t7
  · rw [h2 72 (by decide)]; exact t8
  · rw [h2 56 (by decide)]; exact t9
  · rw [h2 56 (by decide)]; exact t10
  · rw [h2 61 (by decide)]; exact n1
  · rw [h2 61 (by decide), h2 62 (by decide)]; exact n2
  · rw [h2 62 (by decide)]; exact n3
  · rw [et, g19, h2 62 (by decide)]; omega
  · rw [et, h4 27 (by decide), h2 62 (by decide)]; exact n5
  · unfold KNS
    rw [h64, a3]
    by_cases c : (2 : Int32) ≤ l3
    · have en : n64 u l2 l3 l4 = u := by unfold n64; rw [if_pos (Or.inr c)]
      rw [en, if_pos c]
      have ez : u.1 63 + 0 = u.1 63 := Int32.add_zero _
      rw [ez]
      exact ⟨n6, n6'⟩
    · have en : n64 u l2 l3 l4 = sA u 64 l2.toNatClampNeg (u.2.2.1 64 l2.toNatClampNeg + l4) := by unfold n64; rw [if_neg (fun z => z.elim ha.1 c)]
      have kn : l2.toNatClampNeg = l2.toInt.toNat := rfl
      have q4 := Int32.le_iff_toInt_le.mp (h400 c)
      have m6 := n6 l2.toNatClampNeg (by omega)
      have ea : (u.2.2.1 64 l2.toNatClampNeg + l4).toInt = (u.2.2.1 64 l2.toNatClampNeg).toInt + l4.toInt := tI_add (by omega) (by omega)
      rw [ea, e400] at q4
      have g64 : ∀ j, ((n64 u l2 l3 l4).2.2.1 64 j).toInt = if j = l2.toNatClampNeg then (u.2.2.1 64 j).toInt + l4.toInt else (u.2.2.1 64 j).toInt := by
        intro j
        rw [en]
        show (upd (u.2.2.1 64) l2.toNatClampNeg _ j).toInt = _
        unfold upd
        by_cases d : j = l2.toNatClampNeg
        · rw [if_pos d, if_pos d, ea, d]
        · rw [if_neg d, if_neg d]
      refine ⟨fun j hj => ?_, ?_⟩
      · rw [g64 j]
        by_cases d : j = l2.toNatClampNeg
        · rw [if_pos d, d]; omega
        · rw [if_neg d]; exact n6 j hj
      · rw [if_neg c, tI_add (by omega) (by omega), kns_up l2.toNatClampNeg (by omega) l4.toInt g64, n6']
  · unfold BLK
    rw [et, h4 36 (by decide), h4 28 (by decide), h4 29 (by decide), h4 27 (by decide), h4 31 (by decide)]
    intro b hb
    obtain ⟨q1, q2⟩ := n7 b hb
    exact ⟨q1, by rw [q2]; exact (ssz_eq (fun i _ => by rw [h4 21 (by decide)])).symm⟩
end RPut2
