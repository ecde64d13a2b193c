/-! The reference's code: what must hold of each instruction so that its machine goes safely; how pieces are joined. -/
abbrev Sh := Nat × Nat × List (Int × Int)
def nT : Int × Int := (-9223372036854775808, 9223372036854775807)
def opA (u : RSt) (p : Nat) : Int32 := u.2.2.1 49 p
def aA (u : RSt) (p : Nat) : Int32 := u.2.2.1 50 p
def bA (u : RSt) (p : Nat) : Int32 := u.2.2.1 51 p
def byK (k : Int) : Int := if k = 0 then 1 else if k = 4 then 8 else if k = 3 then 4 else 2
def RDb (t : Int × Int) (k : Int32) : Prop := 0 ≤ k.toInt ∧ k.toInt ≤ 4 ∧ ((0 ≤ t.1 ∧ t.2 < 3000) ∨ (5000 ≤ t.1 ∧ t.2 + byK k.toInt ≤ 5064) ∨ (6000 ≤ t.1 ∧ t.2 + byK k.toInt ≤ 6064))
def WRb (t : Int × Int) (k : Int32) : Prop := 0 ≤ k.toInt ∧ k.toInt ≤ 4 ∧ ((0 ≤ t.1 ∧ t.2 < 3000) ∨ (5000 ≤ t.1 ∧ t.2 + byK k.toInt ≤ 5064))
/-- where it may go on, with what on the stack -/
def NX (u : RSt) (H : Nat → Sh) (lo hi pc p : Nat) (σ : List (Int × Int)) : Prop := lo ≤ p ∧ p ≤ hi ∧ (H p).1 = (H pc).1 ∧ (H p).2.2 = σ ∧ ((H p).2.1 < (H pc).2.1 ∨ (opA u p = 1 ∧ p < hi ∧ 1 ≤ (H pc).2.1))
def NX3 (u : RSt) (H : Nat → Sh) (lo hi pc p : Nat) (σ : List (Int × Int)) : Prop := lo ≤ p ∧ p ≤ hi ∧ (H p).1 = (H pc).1 ∧ (H p).2.2 = σ ∧ (H p).2.1 + 3 ≤ (H pc).2.1
def ENT (u : RSt) (H : Nat → Sh) (lo hi : Nat) (e : Int32) (m : Nat) : Prop := ∃ p : Nat, e.toInt = p ∧ lo ≤ p ∧ p < hi ∧ (H p).1 = m ∧ (H p).2.2 = [] ∧ ((H p).2.1 ≤ 2 ∨ opA u p = 1)
/-- the callee is one of the functions, one of the instances of its side -/
def CFq (u : RSt) (lo : Nat) (a : Int32) : Prop := ∃ f : Nat, (f : Int) < (u.2.2.1 37 (lo / 8000)).toInt ∧ a.toInt = 24 * (lo / 8000 : Nat) + 8 + f
def CIq (u : RSt) (lo : Nat) (a : Int32) : Prop := ∃ i : Nat, (i : Int) < (u.2.2.1 42 (lo / 8000)).toInt ∧ a.toInt = 24 * (lo / 8000 : Nat) + i
def LC (u : RSt) (H : Nat → Sh) (lo hi pc : Nat) : Prop := (H pc).2.2.length ≤ 600 ∧ (
  (opA u pc = 1 ∧ lo ≤ pc + 1 ∧ pc + 1 ≤ hi ∧ (H (pc + 1)).1 = (H pc).1 ∧ (H (pc + 1)).2.2 = (H pc).2.2) ∨
  ((opA u pc = 2 ∨ opA u pc = 3) ∧ NX u H lo hi pc (pc + 1) (nT :: (H pc).2.2)) ∨
  (opA u pc = 10 ∧ NX u H lo hi pc (pc + 1) (((aA u pc).toInt, (aA u pc).toInt) :: (H pc).2.2)) ∨
  (opA u pc = 11 ∧ 0 ≤ (aA u pc).toInt ∧ (aA u pc).toInt ≤ 99 ∧ NX u H lo hi pc (pc + 1) (((aA u pc).toInt, 2000 + (aA u pc).toInt) :: (H pc).2.2)) ∨
  (opA u pc = 12 ∧ 0 ≤ (aA u pc).toInt ∧ (aA u pc).toInt ≤ 99 ∧ NX u H lo hi pc (pc + 1) ((2100 + (aA u pc).toInt, 2900 + (aA u pc).toInt) :: (H pc).2.2)) ∨
  (opA u pc = 14 ∧ ∃ t s σ, (H pc).2.2 = t :: s :: σ ∧ 0 ≤ t.1 ∧ t.2 ≤ 100000 ∧ 0 ≤ s.1 ∧ s.2 ≤ 100000 ∧ NX u H lo hi pc (pc + 1) ((t.1 + s.1, t.2 + s.2) :: σ)) ∨
  (opA u pc = 15 ∧ 0 ≤ (aA u pc).toInt ∧ ∃ t σ, (H pc).2.2 = t :: σ ∧ NX u H lo hi pc (pc + 1) ((0, (aA u pc).toInt - 1) :: σ)) ∨
  (opA u pc = 16 ∧ ∃ t σ, (H pc).2.2 = t :: σ ∧ RDb t (aA u pc) ∧ NX u H lo hi pc (pc + 1) (nT :: σ)) ∨
  (opA u pc = 17 ∧ ∃ t σ, (H pc).2.2 = t :: σ ∧ RDb t (aA u pc) ∧ NX u H lo hi pc (pc + 1) (nT :: t :: σ)) ∨
  (opA u pc = 18 ∧ ∃ s t σ, (H pc).2.2 = s :: t :: σ ∧ WRb t (aA u pc) ∧ NX u H lo hi pc (pc + 1) σ) ∨
  (opA u pc = 19 ∧ ∃ s t σ, (H pc).2.2 = s :: t :: σ ∧ RDb t (bA u pc) ∧ WRb t (bA u pc) ∧ NX u H lo hi pc (pc + 1) σ) ∨
  ((opA u pc = 20 ∨ opA u pc = 22 ∨ opA u pc = 23 ∨ opA u pc = 24 ∨ opA u pc = 25 ∨ opA u pc = 29) ∧ ∃ t σ, (H pc).2.2 = t :: σ ∧ NX u H lo hi pc (pc + 1) (nT :: σ)) ∨
  (opA u pc = 21 ∧ ∃ s t σ, (H pc).2.2 = s :: t :: σ ∧ NX u H lo hi pc (pc + 1) (nT :: σ)) ∨
  ((opA u pc = 26 ∨ opA u pc = 27) ∧ ∃ t σ, ∃ p : Nat, (H pc).2.2 = t :: σ ∧ NX u H lo hi pc (pc + 1) σ ∧ (aA u pc).toInt = p ∧ NX u H lo hi pc p σ) ∨
  (opA u pc = 28 ∧ ∃ p : Nat, (aA u pc).toInt = p ∧ NX u H lo hi pc p (H pc).2.2) ∨
  (opA u pc = 30 ∧ ((1 ≤ (aA u pc).toInt ∧ (aA u pc).toInt ≤ 4 ∧ ∃ s t σ, (H pc).2.2 = s :: t :: σ ∧ NX u H lo hi pc (pc + 1) (nT :: σ)) ∨ (¬ (1 ≤ (aA u pc).toInt ∧ (aA u pc).toInt ≤ 4) ∧ ∃ t σ, (H pc).2.2 = t :: σ ∧ NX u H lo hi pc (pc + 1) (nT :: σ)))) ∨
  (opA u pc = 31 ∧ 0 ≤ (aA u pc).toInt ∧ ((aA u pc).toInt < 48 ∧ CFq u lo (aA u pc)) ∧ ∃ as σ, (H pc).2.2 = as ++ σ ∧ (as.length : Int) = (u.2.2.1 30 (aA u pc).toNatClampNeg).toInt ∧ NX3 u H lo hi pc (pc + 1) (nT :: σ) ∧ ENT u H lo hi (u.2.2.1 32 (aA u pc).toNatClampNeg) 2) ∨
  (opA u pc = 32 ∧ 0 ≤ (aA u pc).toInt ∧ ((aA u pc).toInt < 48 ∧ CIq u lo (aA u pc)) ∧ NX3 u H lo hi pc (pc + 1) (H pc).2.2 ∧ 0 ≤ (u.2.2.1 38 (aA u pc).toNatClampNeg).toInt ∧ (u.2.2.1 38 (aA u pc).toNatClampNeg).toInt < 48 ∧ ENT u H lo hi (u.2.2.1 32 (u.2.2.1 38 (aA u pc).toNatClampNeg).toNatClampNeg) 1) ∨
  (opA u pc = 33 ∧ ((H pc).1 = 0 ∨ (H pc).1 = 1) ∧ 1 ≤ (H pc).2.1) ∨
  (opA u pc = 34 ∧ (H pc).1 = 2 ∧ 1 ≤ (H pc).2.1 ∧ ∃ t σ, (H pc).2.2 = t :: σ) ∨
  (opA u pc = 35 ∧ ∃ t σ, (H pc).2.2 = t :: σ) ∨
  (opA u pc = 36 ∧ ∃ t σ, ∃ p : Nat, (H pc).2.2 = t :: σ ∧ NX u H lo hi pc (pc + 1) (t :: σ) ∧ (aA u pc).toInt = p ∧ NX u H lo hi pc p σ) ∨
  (opA u pc = 37 ∧ ∃ t σ, (H pc).2.2 = t :: σ ∧ NX u H lo hi pc (pc + 1) σ) ∨
  ((opA u pc = 38 ∨ opA u pc = 39) ∧ ∃ s t σ, ∃ p : Nat, (H pc).2.2 = s :: t :: σ ∧ NX u H lo hi pc (pc + 1) (t :: σ) ∧ (aA u pc).toInt = p ∧ NX u H lo hi pc p (t :: σ)))
/-- what LC reads of the state, at pc and (operations) below P -/
def SAM (u w : RSt) (P pc : Nat) : Prop := (∀ p, p < P → opA w p = opA u p) ∧ aA w pc = aA u pc ∧ bA w pc = bA u pc ∧ w.2.2.1 30 = u.2.2.1 30 ∧ w.2.2.1 32 = u.2.2.1 32 ∧ w.2.2.1 38 = u.2.2.1 38 ∧ w.2.2.1 37 = u.2.2.1 37 ∧ w.2.2.1 42 = u.2.2.1 42
section RLc
variable {u v w : RSt} {H H' : Nat → Sh} {lo hi hi' P pc p : Nat} {σ : List (Int × Int)}
theorem NX.fr (h : NX u H lo hi pc p σ) (hs : ∀ p, p < hi → opA w p = opA u p) (hH : ∀ p, p ≤ hi → H' p = H p) (hp : pc ≤ hi) (hh : hi ≤ hi') : NX w H' lo hi' pc p σ := by
  obtain ⟨h1, h2, h3, h4, h5⟩ := h
  refine ⟨h1, by omega, ?_, ?_, ?_⟩
  · rw [hH p h2, hH pc hp]; exact h3
  · rw [hH p h2]; exact h4
  · rw [hH p h2, hH pc hp]
    rcases h5 with q | ⟨q1, q2, q3⟩
    · exact Or.inl q
    · exact Or.inr ⟨by rw [hs p q2]; exact q1, by omega, q3⟩
theorem NX3.fr (h : NX3 u H lo hi pc p σ) (hH : ∀ p, p ≤ hi → H' p = H p) (hp : pc ≤ hi) (hh : hi ≤ hi') : NX3 w H' lo hi' pc p σ := by
  obtain ⟨h1, h2, h3, h4, h5⟩ := h
  refine ⟨h1, by omega, ?_, ?_, ?_⟩
  · rw [hH p h2, hH pc hp]; exact h3
  · rw [hH p h2]; exact h4
  · rw [hH p h2, hH pc hp]; exact h5
theorem ENT.fr {e : Int32} {m : Nat} (h : ENT u H lo hi e m) (hs : ∀ p, p < hi → opA w p = opA u p) (hH : ∀ p, p ≤ hi → H' p = H p) (hh : hi ≤ hi') : ENT w H' lo hi' e m := by
  obtain ⟨p, h0, h1, h2, h3, h4, h5⟩ := h
  refine ⟨p, h0, h1, by omega, ?_, ?_, ?_⟩
  · rw [hH p (by omega)]; exact h3
  · rw [hH p (by omega)]; exact h4
  · rw [hH p (by omega)]
    rcases h5 with q | q
    · exact Or.inl q
    · exact Or.inr (by rw [hs p h2]; exact q)
/-- LC stays where nothing below hi changes -/
theorem LC.fr (h : LC u H lo hi pc) (hs : SAM u w hi pc) (hH : ∀ p, p ≤ hi → H' p = H p) (hp : pc < hi) (hh : hi ≤ hi') : LC w H' lo hi' pc := by
  obtain ⟨ho, sa, sb, s30, s32, s38, s37, s42⟩ := hs
  have cf : ∀ {a}, CFq u lo a → CFq w lo a := fun h => by unfold CFq at h ⊢; rw [s37]; exact h
  have ci : ∀ {a}, CIq u lo a → CIq w lo a := fun h => by unfold CIq at h ⊢; rw [s42]; exact h
  have so := ho pc hp
  have eH := hH pc (by omega)
  have nx : ∀ {p σ}, NX u H lo hi pc p σ → NX w H' lo hi' pc p σ := fun h => h.fr ho hH (by omega) hh
  have nx3 : ∀ {p σ}, NX3 u H lo hi pc p σ → NX3 w H' lo hi' pc p σ := fun h => h.fr hH (by omega) hh
  have en : ∀ {e m}, ENT u H lo hi e m → ENT w H' lo hi' e m := fun h => h.fr ho hH hh
  obtain ⟨hl, h⟩ := h
  refine ⟨by rw [eH]; exact hl, ?_⟩
  rw [so, sa, sb, s30, s32, s38, eH]
  rcases h with h | h | h | h | h | h | h | h | h | h | h | h | h | h | h | h | h | h | h | h | h | h | h | h
  · refine Or.inl ⟨h.1, h.2.1, by omega, ?_, ?_⟩
    · rw [hH (pc + 1) (by omega)]; exact h.2.2.2.1
    · rw [hH (pc + 1) (by omega)]; exact h.2.2.2.2
  · exact Or.inr (Or.inl ⟨h.1, nx h.2⟩)
  · exact Or.inr (Or.inr (Or.inl ⟨h.1, nx h.2⟩))
  · exact Or.inr (Or.inr (Or.inr (Or.inl ⟨h.1, h.2.1, h.2.2.1, nx h.2.2.2⟩)))
  · exact Or.inr (Or.inr (Or.inr (Or.inr (Or.inl ⟨h.1, h.2.1, h.2.2.1, nx h.2.2.2⟩))))
  · obtain ⟨h1, t, s, σ, h2, h3, h4, h5, h6, h7⟩ := h
    exact Or.inr (Or.inr (Or.inr (Or.inr (Or.inr (Or.inl ⟨h1, t, s, σ, h2, h3, h4, h5, h6, nx h7⟩)))))
  · obtain ⟨h1, h0, t, σ, h2, h3⟩ := h
    exact Or.inr (Or.inr (Or.inr (Or.inr (Or.inr (Or.inr (Or.inl ⟨h1, h0, t, σ, h2, nx h3⟩))))))
  · obtain ⟨h1, t, σ, h2, h3, h4⟩ := h
    exact Or.inr (Or.inr (Or.inr (Or.inr (Or.inr (Or.inr (Or.inr (Or.inl ⟨h1, t, σ, h2, h3, nx h4⟩)))))))
  · obtain ⟨h1, t, σ, h2, h3, h4⟩ := h
    exact Or.inr (Or.inr (Or.inr (Or.inr (Or.inr (Or.inr (Or.inr (Or.inr (Or.inl ⟨h1, t, σ, h2, h3, nx h4⟩))))))))
  · obtain ⟨h1, s, t, σ, h2, h3, h4⟩ := h
    exact Or.inr (Or.inr (Or.inr (Or.inr (Or.inr (Or.inr (Or.inr (Or.inr (Or.inr (Or.inl ⟨h1, s, t, σ, h2, h3, nx h4⟩)))))))))
  · obtain ⟨h1, s, t, σ, h2, h3, h4, h5⟩ := h
    exact Or.inr (Or.inr (Or.inr (Or.inr (Or.inr (Or.inr (Or.inr (Or.inr (Or.inr (Or.inr (Or.inl ⟨h1, s, t, σ, h2, h3, h4, nx h5⟩))))))))))
  · obtain ⟨h1, t, σ, h2, h3⟩ := h
    exact Or.inr (Or.inr (Or.inr (Or.inr (Or.inr (Or.inr (Or.inr (Or.inr (Or.inr (Or.inr (Or.inr (Or.inl ⟨h1, t, σ, h2, nx h3⟩)))))))))))
  · obtain ⟨h1, s, t, σ, h2, h3⟩ := h
    exact Or.inr (Or.inr (Or.inr (Or.inr (Or.inr (Or.inr (Or.inr (Or.inr (Or.inr (Or.inr (Or.inr (Or.inr (Or.inl ⟨h1, s, t, σ, h2, nx h3⟩))))))))))))
  · obtain ⟨h1, t, σ, p, h2, h3, h4, h5⟩ := h
    exact Or.inr (Or.inr (Or.inr (Or.inr (Or.inr (Or.inr (Or.inr (Or.inr (Or.inr (Or.inr (Or.inr (Or.inr (Or.inr (Or.inl ⟨h1, t, σ, p, h2, nx h3, h4, nx h5⟩)))))))))))))
  · obtain ⟨h1, p, h2, h3⟩ := h
    exact Or.inr (Or.inr (Or.inr (Or.inr (Or.inr (Or.inr (Or.inr (Or.inr (Or.inr (Or.inr (Or.inr (Or.inr (Or.inr (Or.inr (Or.inl ⟨h1, p, h2, nx h3⟩))))))))))))))
  · obtain ⟨h1, ⟨h2, h3, s, t, σ, h4, h5⟩ | ⟨h2, t, σ, h4, h5⟩⟩ := h
    · exact Or.inr (Or.inr (Or.inr (Or.inr (Or.inr (Or.inr (Or.inr (Or.inr (Or.inr (Or.inr (Or.inr (Or.inr (Or.inr (Or.inr (Or.inr (Or.inl ⟨h1, Or.inl ⟨h2, h3, s, t, σ, h4, nx h5⟩⟩)))))))))))))))
    · exact Or.inr (Or.inr (Or.inr (Or.inr (Or.inr (Or.inr (Or.inr (Or.inr (Or.inr (Or.inr (Or.inr (Or.inr (Or.inr (Or.inr (Or.inr (Or.inl ⟨h1, Or.inr ⟨h2, t, σ, h4, nx h5⟩⟩)))))))))))))))
  · obtain ⟨h1, h2, h3, as, σ, h4, h5, h6, h7⟩ := h
    exact Or.inr (Or.inr (Or.inr (Or.inr (Or.inr (Or.inr (Or.inr (Or.inr (Or.inr (Or.inr (Or.inr (Or.inr (Or.inr (Or.inr (Or.inr (Or.inr (Or.inl ⟨h1, h2, ⟨h3.1, cf h3.2⟩, as, σ, h4, h5, nx3 h6, en h7⟩))))))))))))))))
  · obtain ⟨h1, h2, h3, h4, h5, h6, h7⟩ := h
    exact Or.inr (Or.inr (Or.inr (Or.inr (Or.inr (Or.inr (Or.inr (Or.inr (Or.inr (Or.inr (Or.inr (Or.inr (Or.inr (Or.inr (Or.inr (Or.inr (Or.inr (Or.inl ⟨h1, h2, ⟨h3.1, ci h3.2⟩, nx3 h4, h5, h6, en h7⟩)))))))))))))))))
  · exact Or.inr (Or.inr (Or.inr (Or.inr (Or.inr (Or.inr (Or.inr (Or.inr (Or.inr (Or.inr (Or.inr (Or.inr (Or.inr (Or.inr (Or.inr (Or.inr (Or.inr (Or.inr (Or.inl h))))))))))))))))))
  · exact Or.inr (Or.inr (Or.inr (Or.inr (Or.inr (Or.inr (Or.inr (Or.inr (Or.inr (Or.inr (Or.inr (Or.inr (Or.inr (Or.inr (Or.inr (Or.inr (Or.inr (Or.inr (Or.inr (Or.inl h)))))))))))))))))))
  · exact Or.inr (Or.inr (Or.inr (Or.inr (Or.inr (Or.inr (Or.inr (Or.inr (Or.inr (Or.inr (Or.inr (Or.inr (Or.inr (Or.inr (Or.inr (Or.inr (Or.inr (Or.inr (Or.inr (Or.inr (Or.inl h))))))))))))))))))))
  · obtain ⟨h1, t, σ, p, h2, h3, h4, h5⟩ := h
    exact Or.inr (Or.inr (Or.inr (Or.inr (Or.inr (Or.inr (Or.inr (Or.inr (Or.inr (Or.inr (Or.inr (Or.inr (Or.inr (Or.inr (Or.inr (Or.inr (Or.inr (Or.inr (Or.inr (Or.inr (Or.inr (Or.inl ⟨h1, t, σ, p, h2, nx h3, h4, nx h5⟩)))))))))))))))))))))
  · obtain ⟨h1, t, σ, h2, h3⟩ := h
    exact Or.inr (Or.inr (Or.inr (Or.inr (Or.inr (Or.inr (Or.inr (Or.inr (Or.inr (Or.inr (Or.inr (Or.inr (Or.inr (Or.inr (Or.inr (Or.inr (Or.inr (Or.inr (Or.inr (Or.inr (Or.inr (Or.inr (Or.inl ⟨h1, t, σ, h2, nx h3⟩))))))))))))))))))))))
  · obtain ⟨h1, s, t, σ, p, h2, h3, h4, h5⟩ := h
    exact Or.inr (Or.inr (Or.inr (Or.inr (Or.inr (Or.inr (Or.inr (Or.inr (Or.inr (Or.inr (Or.inr (Or.inr (Or.inr (Or.inr (Or.inr (Or.inr (Or.inr (Or.inr (Or.inr (Or.inr (Or.inr (Or.inr (Or.inr ⟨h1, s, t, σ, p, h2, nx h3, h4, nx h5⟩))))))))))))))))))))))
end RLc
