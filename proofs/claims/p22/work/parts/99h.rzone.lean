/-! for: the jump back goes to a place that is tested before time is taken. -/
section RZone
variable {u b0 b1 b2 b3 c w : RSt} {g : Nat} {α γ : List (Int × Int)} {hs : List (Nat × List (Int × Int))} {x a k r : Int32} {t : Int × Int}
theorem zone (h0 : TYP u b0 g α [nT]) (he0 : EFr u b0) (hs0 : ∀ p, p < posR u → SAC u b0 p) (hlt : posR u < posR b0) (m1 : EMT b0 b1 x a 0) (hb : BT x a t) (m2 : EMT b1 b2 16 k 0) (hrd : RDb t k) (m3 : EMT b2 b3 38 0 0) (hc : TYH b3 c g [nT] [nT] hs) (hec : EFr b3 c) (hsc : ∀ p, p < posR b3 → SAC b3 c p) (hrc : ∀ y, y ∈ hs → posR b3 ≤ y.1 ∧ y.1 < posR c) (hop : opA c (posR b3) = 1) (hle : posR b3 < posR c) (m4 : EMT c w 28 r 0) (hr : r.toInt = posR b0) (n0 : 0 ≤ (b0.2.2.1 54 (toN b0)).toInt) (n1 : 0 ≤ (b1.2.2.1 54 (toN b1)).toInt) (n2 : 0 ≤ (b2.2.2.1 54 (toN b2)).toInt) (nc : 0 ≤ (c.2.2.1 54 (toN c)).toInt) (ncl : (c.2.2.1 54 (toN c)).toInt < 8000) (htl : toN c ≤ 1) (e01 : EFr b0 b1) (e12 : EFr b1 b2) (e23 : EFr b2 b3) (ecw : EFr c w) (hg : 525 ≤ g) : TYH u w g α γ ((posR b2, [nT]) :: hs) := by
  intro H σ hH hE hl
  obtain ⟨H1, a1, a2, a3⟩ := h0 H σ hH hE hl
  have q1 := m1.pos n0
  have q2 := m2.pos n1
  have q3 := m3.pos n2
  have qw := m4.pos nc
  have hpc : posR c < 16000 := by unfold posR; omega
  have k1 := m1.2.2.2.2.2.2.2.2.2
  have k2 := m2.2.2.2.2.2.2.2.2.2
  have k3 := m3.2.2.2.2.2.2.2.2.2
  have k4 := m4.2.2.2.2.2.2.2.2.2
  have hbs : bsR u ≤ posR u := by unfold bsR posR; omega
  have E03 : EFr b0 b3 := (e01.tr e12).tr e23
  have Eu3 : EFr u b3 := he0.tr E03
  have hnr : ∀ p, p ≤ 16000 → nr p = 8 * (20000 - p) := fun p _ => rfl
  -- ranks lowered in the zone
  obtain ⟨H2, hb1, hb2, hb3, hb4, hb5⟩ : ∃ H2 : Nat → Sh, (∀ p, p < posR b0 → H2 p = H1 p) ∧ H2 (posR b0) = (md u, nr (posR c) - 1, nT :: σ) ∧ H2 (posR b0 + 1) = (md u, nr (posR c) - 2, t :: nT :: σ) ∧ H2 (posR b0 + 2) = (md u, nr (posR c) - 3, nT :: nT :: σ) ∧ H2 (posR b0 + 3) = (md u, nr (posR b3), nT :: σ) := by
    refine ⟨fun p => if p < posR b0 then H1 p else if p = posR b0 then (md u, nr (posR c) - 1, nT :: σ) else if p = posR b0 + 1 then (md u, nr (posR c) - 2, t :: nT :: σ) else if p = posR b0 + 2 then (md u, nr (posR c) - 3, nT :: nT :: σ) else (md u, nr (posR b3), nT :: σ), fun p hp => ?_, ?_, ?_, ?_, ?_⟩
    · show (if p < posR b0 then _ else _) = _
      rw [if_pos hp]
    · show (if posR b0 < posR b0 then _ else _) = _
      rw [if_neg (by omega), if_pos rfl]
    · show (if posR b0 + 1 < posR b0 then _ else _) = _
      rw [if_neg (by omega), if_neg (by omega), if_pos rfl]
    · show (if posR b0 + 2 < posR b0 then _ else _) = _
      rw [if_neg (by omega), if_neg (by omega), if_neg (by omega), if_pos rfl]
    · show (if posR b0 + 3 < posR b0 then _ else _) = _
      rw [if_neg (by omega), if_neg (by omega), if_neg (by omega), if_neg (by omega)]
  have s03 : ∀ p, p < posR b0 → SAC b0 b3 p := fun p hp => ((k1 p (by omega)).tr (k2 p (by omega))).tr (k3 p (by omega))
  have hp3 : posR b3 = posR b0 + 3 := by omega
  have hE3 : EVq b3 H2 := hE.fr Eu3.to (fun k hk => Eu3.2.1 k (by rcases hk with q | q | q | q <;> subst q <;> decide)) (by omega) (fun p hp => ((hs0 p hp).tr (s03 p (by omega))).1) (fun p hp => (hb1 p (by omega)).trans (a1 p hp))
  obtain ⟨H3, c1, c2, c3⟩ := hc H2 σ (by rw [hp3, hb5, Eu3.mo, hp3]; rfl) hE3 (by omega)
  rw [Eu3.mo] at c2
  obtain ⟨H4, d1, d2⟩ : ∃ H4 : Nat → Sh, (∀ p, p ≤ posR c → H4 p = H3 p) ∧ H4 (posR c + 1) = (md u, nr (posR c + 1), γ ++ σ) := by
    refine ⟨fun p => if p = posR c + 1 then (md u, nr (posR c + 1), γ ++ σ) else H3 p, fun p hp2 => ?_, ?_⟩
    · show (if p = posR c + 1 then _ else H3 p) = _
      rw [if_neg (by omega)]
    · show (if posR c + 1 = posR c + 1 then _ else H3 (posR c + 1)) = _
      rw [if_pos rfl]
  have f24 : ∀ p, p ≤ posR b3 → H4 p = H2 p := fun p hp => (d1 p (by omega)).trans (c1 p hp)
  have g0 : H4 (posR b0) = (md u, nr (posR c) - 1, nT :: σ) := by rw [f24 _ (by omega), hb2]
  have g1 : H4 (posR b0 + 1) = (md u, nr (posR c) - 2, t :: nT :: σ) := by rw [f24 _ (by omega), hb3]
  have g2 : H4 (posR b0 + 2) = (md u, nr (posR c) - 3, nT :: nT :: σ) := by rw [f24 _ (by omega), hb4]
  have g3 : H4 (posR b0 + 3) = (md u, nr (posR b3), nT :: σ) := by rw [f24 _ (by omega), hb5]
  have gc : H4 (posR c) = (md u, nr (posR c), nT :: σ) := by rw [d1 _ (Nat.le_refl _), c2]; rfl
  have hnc : 32000 ≤ nr (posR c) := by unfold nr; omega
  have hnc1 : nr (posR c + 1) + 8 = nr (posR c) := by unfold nr; omega
  have scw : ∀ p, p < posR c → SAC c w p := fun p hp => k4 p (by omega)
  -- the zone's instructions, at the end
  have s3w : ∀ p, p < posR b3 → SAC b3 w p := fun p hp => (hsc p hp).tr (scw p (by omega))
  have z0 : SAC b1 w (posR b0) := ((k2 _ (by omega)).tr (k3 _ (by omega))).tr (s3w _ (by omega))
  have z1 : SAC b2 w (posR b0 + 1) := (k3 _ (by omega)).tr (s3w _ (by omega))
  have z2 : SAC b3 w (posR b0 + 2) := s3w _ (by omega)
  have o0 : opA w (posR b0) = x := by rw [z0.1]; exact m1.2.2.2.2.2.2.1
  have x0 : aA w (posR b0) = a := by rw [z0.2.1]; exact m1.2.2.2.2.2.2.2.1
  have o1 : opA w (posR b0 + 1) = 16 := by rw [z1.1, ← q1]; exact m2.2.2.2.2.2.2.1
  have x1 : aA w (posR b0 + 1) = k := by rw [z1.2.1, ← q1]; exact m2.2.2.2.2.2.2.2.1
  have ep2 : posR b2 = posR b0 + 2 := by omega
  have o2 : opA w (posR b0 + 2) = 38 := by rw [z2.1, ← ep2]; exact m3.2.2.2.2.2.2.1
  have o3 : opA w (posR b0 + 3) = 1 := by rw [← hp3, (scw _ (by omega)).1]; exact hop
  refine ⟨H4, fun p hp => (f24 p (by omega)).trans ((hb1 p (by omega)).trans (a1 p hp)), by rw [qw]; exact d2, fun pc h1 h2 => ?_⟩
  rw [qw] at h2 ⊢
  have nh : ∀ τ, pc < posR b3 → pc ≠ posR b2 → (pc, τ) ∉ (posR b2, [nT]) :: hs := by
    intro τ hp hn hm
    rcases List.mem_cons.mp hm with z | z
    · exact hn (congrArg Prod.fst z)
    · have := (hrc _ z).1
      dsimp only at this
      omega
  by_cases l0 : pc < posR b0
  · refine Or.inl ⟨?_, fun τ => nh τ (by omega) (by omega)⟩
    have z := a3 pc h1 l0
    have sop : SOP b0 w (posR b0) := SOP.ef ((E03.tr hec).tr ecw) (fun p hp => ((s03 p hp).tr (s3w p (by omega))).1)
    refine z.sop sop ((s03 pc l0).tr (s3w pc (by omega))) ⟨fun p hp => (f24 p (by omega)).trans (hb1 p hp), ?_, ?_, ?_⟩ l0 (by omega)
    · rw [g0, a2]
    · rw [g0, a2]; rfl
    · rw [g0, a2]
      show nr (posR c) - 1 ≤ nr (posR b0)
      have := nr_le (p := posR b0) (q := posR c) (by omega)
      omega
  by_cases l1 : pc = posR b0
  · subst l1
    refine Or.inl ⟨⟨?_, ?_⟩, fun τ => nh τ (by omega) (by omega)⟩
    · rw [g0]; show (nT :: σ).length ≤ 600; simp only [List.length_cons]; omega
    · have nx : NX w H4 (bsR u) (posR c + 1) (posR b0) (posR b0 + 1) (t :: nT :: σ) := ⟨by omega, by omega, by rw [g1, g0], by rw [g1], Or.inl (by rw [g1, g0]; show nr (posR c) - 2 < nr (posR c) - 1; omega)⟩
      rw [o0, x0, g0]
      rcases hb with ⟨e, rfl⟩ | ⟨e, y0, y9, rfl⟩ | ⟨e, y0, y9, rfl⟩
      · exact Or.inr (Or.inr (Or.inl ⟨e, nx⟩))
      · exact Or.inr (Or.inr (Or.inr (Or.inl ⟨e, y0, y9, nx⟩)))
      · exact Or.inr (Or.inr (Or.inr (Or.inr (Or.inl ⟨e, y0, y9, nx⟩))))
  by_cases l2 : pc = posR b0 + 1
  · subst l2
    refine Or.inl ⟨⟨?_, ?_⟩, fun τ => nh τ (by omega) (by omega)⟩
    · rw [g1]; show (t :: nT :: σ).length ≤ 600; simp only [List.length_cons]; omega
    · have nx : NX w H4 (bsR u) (posR c + 1) (posR b0 + 1) (posR b0 + 1 + 1) (nT :: nT :: σ) := ⟨by omega, by omega, by rw [g2, g1], by rw [g2], Or.inl (by rw [g2, g1]; show nr (posR c) - 3 < nr (posR c) - 2; omega)⟩
      rw [o1, x1, g1]
      exact Or.inr (Or.inr (Or.inr (Or.inr (Or.inr (Or.inr (Or.inr (Or.inl ⟨rfl, t, nT :: σ, rfl, hrd, nx⟩)))))))
  by_cases l3 : pc = posR b0 + 2
  · subst l3
    refine Or.inr ⟨[nT], by rw [ep2]; simp, by rw [g2], by rw [g2]; show nr (posR c + 1) < nr (posR c) - 3; omega, ?_⟩
    intro w' H' hi' p y1 y2 y3 y4 y5 y6
    have eo : opA w' (posR b0 + 2) = 38 := by rw [y1.1 _ (by omega)]; exact o2
    have eH : H' (posR b0 + 2) = (md u, nr (posR c) - 3, nT :: nT :: σ) := by rw [y3.1 _ (by omega)]; exact g2
    have eH3 := y3.1 (posR b0 + 3) (by omega)
    have nx : NX w' H' (bsR u) hi' (posR b0 + 2) (posR b0 + 2 + 1) (nT :: σ) := ⟨by omega, by omega, by rw [eH3, g3, eH], by rw [eH3, g3], Or.inr ⟨by rw [y1.1 _ (by omega)]; exact o3, by omega, by rw [eH]; show 1 ≤ nr (posR c) - 3; omega⟩⟩
    refine ⟨by rw [eH]; show (nT :: nT :: σ).length ≤ 600; simp only [List.length_cons]; omega, ?_⟩
    exact Or.inr (Or.inr (Or.inr (Or.inr (Or.inr (Or.inr (Or.inr (Or.inr (Or.inr (Or.inr (Or.inr (Or.inr (Or.inr (Or.inr (Or.inr (Or.inr (Or.inr (Or.inr (Or.inr (Or.inr (Or.inr (Or.inr (Or.inr ⟨Or.inl eo, nT, nT, σ, p, by rw [eH], nx, y5, y6⟩))))))))))))))))))))))
  by_cases l4 : pc < posR c
  · have sop : SOP c w (posR c) := SOP.ef ecw (fun p hp => (scw p hp).1)
    rcases c3 pc (by omega) l4 with z | ⟨τ, y1, y2, y3, y4⟩
    · refine Or.inl ⟨?_, fun τ hm => ?_⟩
      · have := z.1
        rw [Eu3.bs] at this
        exact this.sop sop (scw pc l4) (LW.of d1) l4 (by omega)
      · rcases List.mem_cons.mp hm with y | y
        · have := congrArg Prod.fst y
          dsimp only at this
          omega
        · exact z.2 τ y
    · rw [Eu3.bs] at y4
      refine Or.inr ⟨τ, List.mem_cons_of_mem _ y1, by rw [d1 _ (by omega), y2, Eu3.mo], ?_, y4.fr sop (scw pc l4).2.2 (LW.of d1) (by omega)⟩
      rw [d1 _ (by omega)]
      exact Nat.lt_of_le_of_lt (nr_le (by omega)) y3
  · have e : pc = posR c := by omega
    subst e
    refine Or.inl ⟨⟨?_, ?_⟩, fun τ hm => ?_⟩
    · rw [gc]; show (nT :: σ).length ≤ 600; simp only [List.length_cons]; omega
    · have eo : opA w (posR c) = 28 := m4.2.2.2.2.2.2.1
      have ea : aA w (posR c) = r := m4.2.2.2.2.2.2.2.1
      refine Or.inr (Or.inr (Or.inr (Or.inr (Or.inr (Or.inr (Or.inr (Or.inr (Or.inr (Or.inr (Or.inr (Or.inr (Or.inr (Or.inr (Or.inl ⟨eo, posR b0, by rw [ea]; exact hr, ?_⟩))))))))))))))
      refine ⟨by omega, by omega, by rw [g0, gc], by rw [g0, gc], Or.inl (by rw [g0, gc]; show nr (posR c) - 1 < nr (posR c); omega)⟩
    · rcases List.mem_cons.mp hm with y | y
      · have := congrArg Prod.fst y
        dsimp only at this
        omega
      · have := (hrc _ y).2
        dsimp only at this
        omega
end RZone
