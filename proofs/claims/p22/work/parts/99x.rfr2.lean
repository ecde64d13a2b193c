/-! LC stays where the callees' entries stay. -/
/-- what LC reads, told by the callees alone -/
def SAN (u w : RSt) (lo : Nat) : Prop := (∀ j, 24 * (lo / 8000) + 8 ≤ j → (j : Int) < 24 * (lo / 8000 : Nat) + 8 + (u.2.2.1 37 (lo / 8000)).toInt → w.2.2.1 30 j = u.2.2.1 30 j ∧ w.2.2.1 32 j = u.2.2.1 32 j) ∧ (∀ i, 24 * (lo / 8000) ≤ i → (i : Int) < 24 * (lo / 8000 : Nat) + (u.2.2.1 42 (lo / 8000)).toInt → w.2.2.1 38 i = u.2.2.1 38 i ∧ w.2.2.1 32 (u.2.2.1 38 i).toNatClampNeg = u.2.2.1 32 (u.2.2.1 38 i).toNatClampNeg) ∧ (u.2.2.1 37 (lo / 8000)).toInt ≤ (w.2.2.1 37 (lo / 8000)).toInt ∧ (u.2.2.1 42 (lo / 8000)).toInt ≤ (w.2.2.1 42 (lo / 8000)).toInt
section RFr2
variable {u v w : RSt} {H H' : Nat → Sh} {lo hi hi' P pc p : Nat} {σ : List (Int × Int)}
theorem NX.fl (h : NX u H lo hi pc p σ) (hs : ∀ p, lo ≤ p → p < hi → opA w p = opA u p) (hH : ∀ p, p ≤ hi → H' p = H p) (hp : pc ≤ hi) (hh : hi ≤ hi') : NX w H' lo hi' pc p σ := by
  obtain ⟨h1, h2, h3, h4, h5⟩ := h
  refine ⟨h1, by omega, ?_, ?_, ?_⟩
  · rw [hH p h2, hH pc hp]; exact h3
  · rw [hH p h2]; exact h4
  · rw [hH p h2, hH pc hp]
    rcases h5 with q | ⟨q1, q2, q3⟩
    · exact Or.inl q
    · exact Or.inr ⟨by rw [hs p h1 q2]; exact q1, by omega, q3⟩
theorem ENT.fl {e : Int32} {m : Nat} (h : ENT u H lo hi e m) (hs : ∀ p, lo ≤ p → p < hi → opA w p = opA u p) (hH : ∀ p, p ≤ hi → H' p = H p) (hh : hi ≤ hi') : ENT w H' lo hi' e m := by
  obtain ⟨p, h0, h1, h2, h3, h4, h5⟩ := h
  refine ⟨p, h0, h1, by omega, ?_, ?_, ?_⟩
  · rw [hH p (by omega)]; exact h3
  · rw [hH p (by omega)]; exact h4
  · rw [hH p (by omega)]
    rcases h5 with q | q
    · exact Or.inl q
    · exact Or.inr (by rw [hs p h1 h2]; exact q)
theorem LC.fr3 (h : LC u H lo hi pc) (ho : ∀ p, lo ≤ p → p < hi → opA w p = opA u p) (so : opA w pc = opA u pc) (sa : aA w pc = aA u pc) (sb : bA w pc = bA u pc) (hs : SAN u w lo) (hH : ∀ p, p ≤ hi → H' p = H p) (hp : pc ≤ hi) (hh : hi ≤ hi') : LC w H' lo hi' pc := by
  obtain ⟨s1, s2, s37, s42⟩ := hs
  have eH := hH pc hp
  have nx : ∀ {p σ}, NX u H lo hi pc p σ → NX w H' lo hi' pc p σ := fun h => h.fl ho hH hp hh
  have nx3 : ∀ {p σ}, NX3 u H lo hi pc p σ → NX3 w H' lo hi' pc p σ := fun h => h.fr hH hp hh
  have en : ∀ {e m}, ENT u H lo hi e m → ENT w H' lo hi' e m := fun h => h.fl ho hH hh
  obtain ⟨hl, h⟩ := h
  refine ⟨by rw [eH]; exact hl, ?_⟩
  rw [so, sa, sb, eH]
  rcases h with h | h | h | h | h | h | h | h | h | h | h | h | h | h | h | h | h | h | h | h | h | h | h | h
  · refine Or.inl ⟨h.1, h.2.1, by omega, ?_, ?_⟩
    · rw [hH (pc + 1) (by omega)]; exact h.2.2.2.1
    · rw [hH (pc + 1) (by omega)]; exact h.2.2.2.2
  · exact Or.inr (Or.inl ⟨h.1, nx h.2⟩)
  · exact Or.inr (Or.inr (Or.inl ⟨h.1, nx h.2⟩))
  · exact Or.inr (Or.inr (Or.inr (Or.inl ⟨h.1, h.2.1, h.2.2.1, nx h.2.2.2⟩)))
  · exact Or.inr (Or.inr (Or.inr (Or.inr (Or.inl ⟨h.1, h.2.1, h.2.2.1, nx h.2.2.2⟩))))
  · obtain ⟨h1, t, s, σ, h2, h3, h4, h5, h6, h7⟩ := h
    exact Or.inr (Or.inr (Or.inr (Or.inr (Or.inr (Or.inl ⟨h1, t, s, σ, h2, h3, h4, h5, h6, nx h7⟩)))))
  · obtain ⟨h1, h0, t, σ, h2, h3⟩ := h
    exact Or.inr (Or.inr (Or.inr (Or.inr (Or.inr (Or.inr (Or.inl ⟨h1, h0, t, σ, h2, nx h3⟩))))))
  · obtain ⟨h1, t, σ, h2, h3, h4⟩ := h
    exact Or.inr (Or.inr (Or.inr (Or.inr (Or.inr (Or.inr (Or.inr (Or.inl ⟨h1, t, σ, h2, h3, nx h4⟩)))))))
  · obtain ⟨h1, t, σ, h2, h3, h4⟩ := h
    exact Or.inr (Or.inr (Or.inr (Or.inr (Or.inr (Or.inr (Or.inr (Or.inr (Or.inl ⟨h1, t, σ, h2, h3, nx h4⟩))))))))
  · obtain ⟨h1, s, t, σ, h2, h3, h4⟩ := h
    exact Or.inr (Or.inr (Or.inr (Or.inr (Or.inr (Or.inr (Or.inr (Or.inr (Or.inr (Or.inl ⟨h1, s, t, σ, h2, h3, nx h4⟩)))))))))
  · obtain ⟨h1, s, t, σ, h2, h3, h4, h5⟩ := h
    exact Or.inr (Or.inr (Or.inr (Or.inr (Or.inr (Or.inr (Or.inr (Or.inr (Or.inr (Or.inr (Or.inl ⟨h1, s, t, σ, h2, h3, h4, nx h5⟩))))))))))
  · obtain ⟨h1, t, σ, h2, h3⟩ := h
    exact Or.inr (Or.inr (Or.inr (Or.inr (Or.inr (Or.inr (Or.inr (Or.inr (Or.inr (Or.inr (Or.inr (Or.inl ⟨h1, t, σ, h2, nx h3⟩)))))))))))
  · obtain ⟨h1, s, t, σ, h2, h3⟩ := h
    exact Or.inr (Or.inr (Or.inr (Or.inr (Or.inr (Or.inr (Or.inr (Or.inr (Or.inr (Or.inr (Or.inr (Or.inr (Or.inl ⟨h1, s, t, σ, h2, nx h3⟩))))))))))))
  · obtain ⟨h1, t, σ, p, h2, h3, h4, h5⟩ := h
    exact Or.inr (Or.inr (Or.inr (Or.inr (Or.inr (Or.inr (Or.inr (Or.inr (Or.inr (Or.inr (Or.inr (Or.inr (Or.inr (Or.inl ⟨h1, t, σ, p, h2, nx h3, h4, nx h5⟩)))))))))))))
  · obtain ⟨h1, p, h2, h3⟩ := h
    exact Or.inr (Or.inr (Or.inr (Or.inr (Or.inr (Or.inr (Or.inr (Or.inr (Or.inr (Or.inr (Or.inr (Or.inr (Or.inr (Or.inr (Or.inl ⟨h1, p, h2, nx h3⟩))))))))))))))
  · obtain ⟨h1, ⟨h2, h3, s, t, σ, h4, h5⟩ | ⟨h2, t, σ, h4, h5⟩⟩ := h
    · exact Or.inr (Or.inr (Or.inr (Or.inr (Or.inr (Or.inr (Or.inr (Or.inr (Or.inr (Or.inr (Or.inr (Or.inr (Or.inr (Or.inr (Or.inr (Or.inl ⟨h1, Or.inl ⟨h2, h3, s, t, σ, h4, nx h5⟩⟩)))))))))))))))
    · exact Or.inr (Or.inr (Or.inr (Or.inr (Or.inr (Or.inr (Or.inr (Or.inr (Or.inr (Or.inr (Or.inr (Or.inr (Or.inr (Or.inr (Or.inr (Or.inl ⟨h1, Or.inr ⟨h2, t, σ, h4, nx h5⟩⟩)))))))))))))))
  · obtain ⟨h1, h2, ⟨h3, f, f1, f2⟩, as, σ, h4, h5, h6, h7⟩ := h
    have en1 : (aA u pc).toNatClampNeg = (aA u pc).toInt.toNat := rfl
    obtain ⟨x30, x32⟩ := s1 (aA u pc).toNatClampNeg (by omega) (by omega)
    rw [x30, x32]
    exact Or.inr (Or.inr (Or.inr (Or.inr (Or.inr (Or.inr (Or.inr (Or.inr (Or.inr (Or.inr (Or.inr (Or.inr (Or.inr (Or.inr (Or.inr (Or.inr (Or.inl ⟨h1, h2, ⟨h3, f, by omega, f2⟩, as, σ, h4, h5, nx3 h6, en h7⟩))))))))))))))))
  · obtain ⟨h1, h2, ⟨h3, f, f1, f2⟩, h4, h5, h6, h7⟩ := h
    have en1 : (aA u pc).toNatClampNeg = (aA u pc).toInt.toNat := rfl
    obtain ⟨x38, x32⟩ := s2 (aA u pc).toNatClampNeg (by omega) (by omega)
    rw [x38, x32]
    exact Or.inr (Or.inr (Or.inr (Or.inr (Or.inr (Or.inr (Or.inr (Or.inr (Or.inr (Or.inr (Or.inr (Or.inr (Or.inr (Or.inr (Or.inr (Or.inr (Or.inr (Or.inl ⟨h1, h2, ⟨h3, f, by omega, f2⟩, nx3 h4, h5, h6, en h7⟩)))))))))))))))))
  · exact Or.inr (Or.inr (Or.inr (Or.inr (Or.inr (Or.inr (Or.inr (Or.inr (Or.inr (Or.inr (Or.inr (Or.inr (Or.inr (Or.inr (Or.inr (Or.inr (Or.inr (Or.inr (Or.inl h))))))))))))))))))
  · exact Or.inr (Or.inr (Or.inr (Or.inr (Or.inr (Or.inr (Or.inr (Or.inr (Or.inr (Or.inr (Or.inr (Or.inr (Or.inr (Or.inr (Or.inr (Or.inr (Or.inr (Or.inr (Or.inr (Or.inl h)))))))))))))))))))
  · exact Or.inr (Or.inr (Or.inr (Or.inr (Or.inr (Or.inr (Or.inr (Or.inr (Or.inr (Or.inr (Or.inr (Or.inr (Or.inr (Or.inr (Or.inr (Or.inr (Or.inr (Or.inr (Or.inr (Or.inr (Or.inl h))))))))))))))))))))
  · obtain ⟨h1, t, σ, p, h2, h3, h4, h5⟩ := h
    exact Or.inr (Or.inr (Or.inr (Or.inr (Or.inr (Or.inr (Or.inr (Or.inr (Or.inr (Or.inr (Or.inr (Or.inr (Or.inr (Or.inr (Or.inr (Or.inr (Or.inr (Or.inr (Or.inr (Or.inr (Or.inr (Or.inl ⟨h1, t, σ, p, h2, nx h3, h4, nx h5⟩)))))))))))))))))))))
  · obtain ⟨h1, t, σ, h2, h3⟩ := h
    exact Or.inr (Or.inr (Or.inr (Or.inr (Or.inr (Or.inr (Or.inr (Or.inr (Or.inr (Or.inr (Or.inr (Or.inr (Or.inr (Or.inr (Or.inr (Or.inr (Or.inr (Or.inr (Or.inr (Or.inr (Or.inr (Or.inr (Or.inl ⟨h1, t, σ, h2, nx h3⟩))))))))))))))))))))))
  · obtain ⟨h1, s, t, σ, p, h2, h3, h4, h5⟩ := h
    exact Or.inr (Or.inr (Or.inr (Or.inr (Or.inr (Or.inr (Or.inr (Or.inr (Or.inr (Or.inr (Or.inr (Or.inr (Or.inr (Or.inr (Or.inr (Or.inr (Or.inr (Or.inr (Or.inr (Or.inr (Or.inr (Or.inr (Or.inr ⟨h1, s, t, σ, p, h2, nx h3, h4, nx h5⟩))))))))))))))))))))))
theorem LC.fr2 (h : LC u H lo hi pc) (ho : ∀ p, p < hi → opA w p = opA u p) (so : opA w pc = opA u pc) (sa : aA w pc = aA u pc) (sb : bA w pc = bA u pc) (hs : SAN u w lo) (hH : ∀ p, p ≤ hi → H' p = H p) (hp : pc ≤ hi) (hh : hi ≤ hi') : LC w H' lo hi' pc :=
  h.fr3 (fun p _ hp => ho p hp) so sa sb hs hH hp hh
end RFr2
