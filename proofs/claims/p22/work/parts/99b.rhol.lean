/-! Code with jumps not yet led: any number of them. -/
/-- the same below hi; at hi the rank may be less -/
def LW (H H' : Nat → Sh) (hi : Nat) : Prop := (∀ p, p < hi → H' p = H p) ∧ (H' hi).1 = (H hi).1 ∧ (H' hi).2.2 = (H hi).2.2 ∧ (H' hi).2.1 ≤ (H hi).2.1
/-- what the tables and the code below hi say stays -/
def SOP (u w : RSt) (hi : Nat) : Prop := (∀ p, p < hi → opA w p = opA u p) ∧ w.2.2.1 30 = u.2.2.1 30 ∧ w.2.2.1 32 = u.2.2.1 32 ∧ w.2.2.1 38 = u.2.2.1 38 ∧ w.2.2.1 37 = u.2.2.1 37 ∧ w.2.2.1 42 = u.2.2.1 42
/-- at pc a jump waits for a place with τ on the stack -/
def HOL (w : RSt) (H : Nat → Sh) (lo hi pc : Nat) (τ : List (Int × Int)) : Prop := ∀ (w' : RSt) (H' : Nat → Sh) (hi' p : Nat), SOP w w' hi → bA w' pc = bA w pc → LW H H' hi → hi ≤ hi' → (aA w' pc).toInt = p → NX w' H' lo hi' pc p τ → LC w' H' lo hi' pc
def TYH (u w : RSt) (g : Nat) (α β : List (Int × Int)) (hs : List (Nat × List (Int × Int))) : Prop := ∀ (H : Nat → Sh) (σ : List (Int × Int)), H (posR u) = (md u, nr (posR u), α ++ σ) → EVq u H → σ.length + g ≤ 600 → ∃ H' : Nat → Sh, (∀ p, p ≤ posR u → H' p = H p) ∧ H' (posR w) = (md u, nr (posR w), β ++ σ) ∧ ∀ pc, posR u ≤ pc → pc < posR w → (LC w H' (bsR u) (posR w) pc ∧ ∀ τ, (pc, τ) ∉ hs) ∨ ∃ τ, (pc, τ) ∈ hs ∧ (H' pc).1 = md u ∧ nr (posR w) < (H' pc).2.1 ∧ HOL w H' (bsR u) (posR w) pc (τ ++ σ)
/-- jumps were led -/
def PTS (v w : RSt) (ps : List Nat) : Prop := w.1 = v.1 ∧ w.2.1 = v.2.1 ∧ w.2.2.2 = v.2.2.2 ∧ (∀ k, k ≠ 50 → w.2.2.1 k = v.2.2.1 k) ∧ (∀ j, j ∈ ps → (aA w j).toInt = posR v) ∧ (∀ p, p ∉ ps → aA w p = aA v p)
section RHol
variable {u v w : RSt} {H H' H2 : Nat → Sh} {lo hi hi' pc g g1 g2 : Nat} {α β γ τ : List (Int × Int)} {hs hs1 hs2 : List (Nat × List (Int × Int))} {x a b : Int32}
theorem LW.rf : LW H H hi := ⟨fun _ _ => rfl, rfl, rfl, Nat.le_refl _⟩
theorem LW.of (h : ∀ p, p ≤ hi → H' p = H p) : LW H H' hi := by
  refine ⟨fun p hp => h p (by omega), ?_, ?_, ?_⟩ <;> rw [h hi (Nat.le_refl _)] <;> first | rfl | exact Nat.le_refl _
theorem LW.tr (h : LW H H' hi) (h2 : LW H' H2 hi') (hh : hi ≤ hi') : LW H H2 hi := by
  obtain ⟨a1, a2, a3, a4⟩ := h
  obtain ⟨b1, b2, b3, b4⟩ := h2
  by_cases e : hi = hi'
  · subst e
    exact ⟨fun p hp => (b1 p hp).trans (a1 p hp), b2.trans a2, b3.trans a3, Nat.le_trans b4 a4⟩
  · have q := b1 hi (by omega)
    exact ⟨fun p hp => (b1 p (by omega)).trans (a1 p hp), by rw [q]; exact a2, by rw [q]; exact a3, by rw [q]; exact a4⟩
theorem SOP.rf : SOP u u hi := ⟨fun _ _ => rfl, rfl, rfl, rfl, rfl, rfl⟩
theorem SOP.tr (h : SOP u v hi) (h2 : SOP v w hi') (hh : hi ≤ hi') : SOP u w hi := ⟨fun p hp => (h2.1 p (by omega)).trans (h.1 p hp), h2.2.1.trans h.2.1, h2.2.2.1.trans h.2.2.1, h2.2.2.2.1.trans h.2.2.2.1, h2.2.2.2.2.1.trans h.2.2.2.2.1, h2.2.2.2.2.2.trans h.2.2.2.2.2⟩
theorem SOP.ef (h : EFr u w) (hs : ∀ p, p < hi → opA w p = opA u p) : SOP u w hi := ⟨hs, h.2.1 30 (by decide), h.2.1 32 (by decide), h.2.1 38 (by decide), h.2.1 37 (by decide), h.2.1 42 (by decide)⟩
theorem NX.lw {p : Nat} {σ : List (Int × Int)} (h : NX u H lo hi pc p σ) (hs : ∀ p, p < hi → opA w p = opA u p) (hH : LW H H' hi) (hp : pc < hi) (hh : hi ≤ hi') : NX w H' lo hi' pc p σ := by
  obtain ⟨h1, h2, h3, h4, h5⟩ := h
  obtain ⟨l1, l2, l3, l4⟩ := hH
  have ep := l1 pc hp
  by_cases e : p = hi
  · subst e
    refine ⟨h1, hh, by rw [l2, ep]; exact h3, by rw [l3]; exact h4, ?_⟩
    rw [ep]
    rcases h5 with q | ⟨q1, q2, q3⟩
    · exact Or.inl (by omega)
    · omega
  · have eq := l1 p (by omega)
    refine ⟨h1, by omega, by rw [eq, ep]; exact h3, by rw [eq]; exact h4, ?_⟩
    rw [eq, ep]
    rcases h5 with q | ⟨q1, q2, q3⟩
    · exact Or.inl q
    · exact Or.inr ⟨by rw [hs p q2]; exact q1, by omega, q3⟩
theorem NX3.lw {p : Nat} {σ : List (Int × Int)} (h : NX3 u H lo hi pc p σ) (hH : LW H H' hi) (hp : pc < hi) (hh : hi ≤ hi') : NX3 w H' lo hi' pc p σ := by
  obtain ⟨h1, h2, h3, h4, h5⟩ := h
  obtain ⟨l1, l2, l3, l4⟩ := hH
  have ep := l1 pc hp
  by_cases e : p = hi
  · subst e
    exact ⟨h1, hh, by rw [l2, ep]; exact h3, by rw [l3]; exact h4, by rw [ep]; omega⟩
  · have eq := l1 p (by omega)
    exact ⟨h1, by omega, by rw [eq, ep]; exact h3, by rw [eq]; exact h4, by rw [eq, ep]; exact h5⟩
theorem ENT.lw {e : Int32} {m : Nat} (h : ENT u H lo hi e m) (hs : ∀ p, p < hi → opA w p = opA u p) (hH : LW H H' hi) (hh : hi ≤ hi') : ENT w H' lo hi' e m := by
  obtain ⟨p, h0, h1, h2, h3, h4, h5⟩ := h
  have eq := hH.1 p h2
  refine ⟨p, h0, h1, by omega, by rw [eq]; exact h3, by rw [eq]; exact h4, ?_⟩
  rw [eq]
  rcases h5 with q | q
  · exact Or.inl q
  · exact Or.inr (by rw [hs p h2]; exact q)
theorem LW.at {p : Nat} (h : LW H H' hi) (hp : p ≤ hi) : (H' p).1 = (H p).1 ∧ (H' p).2.2 = (H p).2.2 := by
  by_cases e : p = hi
  · subst e; exact ⟨h.2.1, h.2.2.1⟩
  · rw [h.1 p (by omega)]; exact ⟨rfl, rfl⟩
theorem LC.lw (h : LC u H lo hi pc) (hs : SAM u w hi pc) (hH : LW H H' hi) (hp : pc < hi) (hh : hi ≤ hi') : LC w H' lo hi' pc := by
  obtain ⟨ho, sa, sb, s30, s32, s38, s37, s42⟩ := hs
  have cf : ∀ {a}, CFq u lo a → CFq w lo a := fun h => by unfold CFq at h ⊢; rw [s37]; exact h
  have ci : ∀ {a}, CIq u lo a → CIq w lo a := fun h => by unfold CIq at h ⊢; rw [s42]; exact h
  have so := ho pc hp
  have eH := hH.1 pc hp
  have nx : ∀ {p σ}, NX u H lo hi pc p σ → NX w H' lo hi' pc p σ := fun h => h.lw ho hH hp hh
  have nx3 : ∀ {p σ}, NX3 u H lo hi pc p σ → NX3 w H' lo hi' pc p σ := fun h => h.lw hH hp hh
  have en : ∀ {e m}, ENT u H lo hi e m → ENT w H' lo hi' e m := fun h => h.lw ho hH hh
  obtain ⟨hl, h⟩ := h
  refine ⟨by rw [eH]; exact hl, ?_⟩
  rw [so, sa, sb, s30, s32, s38, eH]
  rcases h with h | h | h | h | h | h | h | h | h | h | h | h | h | h | h | h | h | h | h | h | h | h | h | h
  · refine Or.inl ⟨h.1, h.2.1, by omega, ?_, ?_⟩
    · rw [(hH.at (p := pc + 1) h.2.2.1).1]; exact h.2.2.2.1
    · rw [(hH.at (p := pc + 1) h.2.2.1).2]; exact h.2.2.2.2
  · exact Or.inr (Or.inl ⟨h.1, nx h.2⟩)
  · exact Or.inr (Or.inr (Or.inl ⟨h.1, nx h.2⟩))
  · exact Or.inr (Or.inr (Or.inr (Or.inl ⟨h.1, h.2.1, h.2.2.1, nx h.2.2.2⟩)))
  · exact Or.inr (Or.inr (Or.inr (Or.inr (Or.inl ⟨h.1, h.2.1, h.2.2.1, nx h.2.2.2⟩))))
  · obtain ⟨h1, t, s, σ, h2, h3, h4, h5, h6, h7⟩ := h
    exact Or.inr (Or.inr (Or.inr (Or.inr (Or.inr (Or.inl ⟨h1, t, s, σ, h2, h3, h4, h5, h6, nx h7⟩)))))
  · obtain ⟨h1, h0, t, σ, h2, h3⟩ := h
    exact Or.inr (Or.inr (Or.inr (Or.inr (Or.inr (Or.inr (Or.inl ⟨h1, h0, t, σ, h2, nx h3⟩))))))
  · obtain ⟨h1, t, σ, h2, h3, h4⟩ := h
    exact Or.inr (Or.inr (Or.inr (Or.inr (Or.inr (Or.inr (Or.inr (Or.inl ⟨h1, t, σ, h2, h3, nx h4⟩)))))))
  · obtain ⟨h1, t, σ, h2, h3, h4⟩ := h
    exact Or.inr (Or.inr (Or.inr (Or.inr (Or.inr (Or.inr (Or.inr (Or.inr (Or.inl ⟨h1, t, σ, h2, h3, nx h4⟩))))))))
  · obtain ⟨h1, s, t, σ, h2, h3, h4⟩ := h
    exact Or.inr (Or.inr (Or.inr (Or.inr (Or.inr (Or.inr (Or.inr (Or.inr (Or.inr (Or.inl ⟨h1, s, t, σ, h2, h3, nx h4⟩)))))))))
  · obtain ⟨h1, s, t, σ, h2, h3, h4, h5⟩ := h
    exact Or.inr (Or.inr (Or.inr (Or.inr (Or.inr (Or.inr (Or.inr (Or.inr (Or.inr (Or.inr (Or.inl ⟨h1, s, t, σ, h2, h3, h4, nx h5⟩))))))))))
  · obtain ⟨h1, t, σ, h2, h3⟩ := h
    exact Or.inr (Or.inr (Or.inr (Or.inr (Or.inr (Or.inr (Or.inr (Or.inr (Or.inr (Or.inr (Or.inr (Or.inl ⟨h1, t, σ, h2, nx h3⟩)))))))))))
  · obtain ⟨h1, s, t, σ, h2, h3⟩ := h
    exact Or.inr (Or.inr (Or.inr (Or.inr (Or.inr (Or.inr (Or.inr (Or.inr (Or.inr (Or.inr (Or.inr (Or.inr (Or.inl ⟨h1, s, t, σ, h2, nx h3⟩))))))))))))
  · obtain ⟨h1, t, σ, p, h2, h3, h4, h5⟩ := h
    exact Or.inr (Or.inr (Or.inr (Or.inr (Or.inr (Or.inr (Or.inr (Or.inr (Or.inr (Or.inr (Or.inr (Or.inr (Or.inr (Or.inl ⟨h1, t, σ, p, h2, nx h3, h4, nx h5⟩)))))))))))))
  · obtain ⟨h1, p, h2, h3⟩ := h
    exact Or.inr (Or.inr (Or.inr (Or.inr (Or.inr (Or.inr (Or.inr (Or.inr (Or.inr (Or.inr (Or.inr (Or.inr (Or.inr (Or.inr (Or.inl ⟨h1, p, h2, nx h3⟩))))))))))))))
  · obtain ⟨h1, ⟨h2, h3, s, t, σ, h4, h5⟩ | ⟨h2, t, σ, h4, h5⟩⟩ := h
    · exact Or.inr (Or.inr (Or.inr (Or.inr (Or.inr (Or.inr (Or.inr (Or.inr (Or.inr (Or.inr (Or.inr (Or.inr (Or.inr (Or.inr (Or.inr (Or.inl ⟨h1, Or.inl ⟨h2, h3, s, t, σ, h4, nx h5⟩⟩)))))))))))))))
    · exact Or.inr (Or.inr (Or.inr (Or.inr (Or.inr (Or.inr (Or.inr (Or.inr (Or.inr (Or.inr (Or.inr (Or.inr (Or.inr (Or.inr (Or.inr (Or.inl ⟨h1, Or.inr ⟨h2, t, σ, h4, nx h5⟩⟩)))))))))))))))
  · obtain ⟨h1, h2, h3, as, σ, h4, h5, h6, h7⟩ := h
    exact Or.inr (Or.inr (Or.inr (Or.inr (Or.inr (Or.inr (Or.inr (Or.inr (Or.inr (Or.inr (Or.inr (Or.inr (Or.inr (Or.inr (Or.inr (Or.inr (Or.inl ⟨h1, h2, ⟨h3.1, cf h3.2⟩, as, σ, h4, h5, nx3 h6, en h7⟩))))))))))))))))
  · obtain ⟨h1, h2, h3, h4, h5, h6, h7⟩ := h
    exact Or.inr (Or.inr (Or.inr (Or.inr (Or.inr (Or.inr (Or.inr (Or.inr (Or.inr (Or.inr (Or.inr (Or.inr (Or.inr (Or.inr (Or.inr (Or.inr (Or.inr (Or.inl ⟨h1, h2, ⟨h3.1, ci h3.2⟩, nx3 h4, h5, h6, en h7⟩)))))))))))))))))
  · exact Or.inr (Or.inr (Or.inr (Or.inr (Or.inr (Or.inr (Or.inr (Or.inr (Or.inr (Or.inr (Or.inr (Or.inr (Or.inr (Or.inr (Or.inr (Or.inr (Or.inr (Or.inr (Or.inl h))))))))))))))))))
  · exact Or.inr (Or.inr (Or.inr (Or.inr (Or.inr (Or.inr (Or.inr (Or.inr (Or.inr (Or.inr (Or.inr (Or.inr (Or.inr (Or.inr (Or.inr (Or.inr (Or.inr (Or.inr (Or.inr (Or.inl h)))))))))))))))))))
  · exact Or.inr (Or.inr (Or.inr (Or.inr (Or.inr (Or.inr (Or.inr (Or.inr (Or.inr (Or.inr (Or.inr (Or.inr (Or.inr (Or.inr (Or.inr (Or.inr (Or.inr (Or.inr (Or.inr (Or.inr (Or.inl h))))))))))))))))))))
  · obtain ⟨h1, t, σ, p, h2, h3, h4, h5⟩ := h
    exact Or.inr (Or.inr (Or.inr (Or.inr (Or.inr (Or.inr (Or.inr (Or.inr (Or.inr (Or.inr (Or.inr (Or.inr (Or.inr (Or.inr (Or.inr (Or.inr (Or.inr (Or.inr (Or.inr (Or.inr (Or.inr (Or.inl ⟨h1, t, σ, p, h2, nx h3, h4, nx h5⟩)))))))))))))))))))))
  · obtain ⟨h1, t, σ, h2, h3⟩ := h
    exact Or.inr (Or.inr (Or.inr (Or.inr (Or.inr (Or.inr (Or.inr (Or.inr (Or.inr (Or.inr (Or.inr (Or.inr (Or.inr (Or.inr (Or.inr (Or.inr (Or.inr (Or.inr (Or.inr (Or.inr (Or.inr (Or.inr (Or.inl ⟨h1, t, σ, h2, nx h3⟩))))))))))))))))))))))
  · obtain ⟨h1, s, t, σ, p, h2, h3, h4, h5⟩ := h
    exact Or.inr (Or.inr (Or.inr (Or.inr (Or.inr (Or.inr (Or.inr (Or.inr (Or.inr (Or.inr (Or.inr (Or.inr (Or.inr (Or.inr (Or.inr (Or.inr (Or.inr (Or.inr (Or.inr (Or.inr (Or.inr (Or.inr (Or.inr ⟨h1, s, t, σ, p, h2, nx h3, h4, nx h5⟩))))))))))))))))))))))
theorem LC.sop (h : LC u H lo hi pc) (hs : SOP u w hi) (hc : SAC u w pc) (hH : LW H H' hi) (hp : pc < hi) (hh : hi ≤ hi') : LC w H' lo hi' pc :=
  h.lw ⟨hs.1, hc.2.1, hc.2.2, hs.2.1, hs.2.2.1, hs.2.2.2.1, hs.2.2.2.2.1, hs.2.2.2.2.2⟩ hH hp hh
theorem HOL.fr (h : HOL u H lo hi pc τ) (hs : SOP u w hi) (hb : bA w pc = bA u pc) (hH : LW H H' hi) (hh : hi ≤ hi') : HOL w H' lo hi' pc τ :=
  fun w' H2 h2 p q1 q2 q3 q4 q5 q6 => h w' H2 h2 p (hs.tr q1 hh) (q2.trans hb) (hH.tr q3 hh) (Nat.le_trans hh q4) q5 q6
theorem TYP.h (h : TYP u w g α β) : TYH u w g α β [] := by
  intro H σ hH hE hl
  obtain ⟨H1, a1, a2, a3⟩ := h H σ hH hE hl
  exact ⟨H1, a1, a2, fun pc h1 h2 => Or.inl ⟨a3 pc h1 h2, fun _ => by simp⟩⟩
theorem TYH.p (h : TYH u w g α β []) : TYP u w g α β := by
  intro H σ hH hE hl
  obtain ⟨H1, a1, a2, a3⟩ := h H σ hH hE hl
  refine ⟨H1, a1, a2, fun pc h1 h2 => ?_⟩
  rcases a3 pc h1 h2 with q | ⟨τ, q, -⟩
  · exact q.1
  · exact absurd q (by simp)
theorem TYH.we (h : TYH u w g α β hs) (hh : ∀ x, x ∈ hs ↔ x ∈ hs1) (hg : g ≤ g1) : TYH u w g1 α β hs1 := by
  intro H σ hH hE hl
  obtain ⟨H1, a1, a2, a3⟩ := h H σ hH hE (by omega)
  refine ⟨H1, a1, a2, fun pc h1 h2 => ?_⟩
  rcases a3 pc h1 h2 with q | ⟨τ, q, q2⟩
  · exact Or.inl ⟨q.1, fun τ z => q.2 τ ((hh _).mpr z)⟩
  · exact Or.inr ⟨τ, (hh _).mp q, q2⟩
theorem nr_le {p q : Nat} (h : p ≤ q) : nr q ≤ nr p := by unfold nr; omega
theorem TYH.tr (h1 : TYH u v g1 α β hs1) (h2 : TYH v w g2 β γ hs2) (p1 : posR u ≤ posR v) (p2 : posR v ≤ posR w) (e1 : EFr u v) (e2 : EFr v w) (s1 : ∀ p, p < posR u → SAC u v p) (s2 : ∀ p, p < posR v → SAC v w p) (hg1 : g1 ≤ g) (hg2 : g2 ≤ g) (r1 : ∀ x, x ∈ hs1 → x.1 < posR v) (r2 : ∀ x, x ∈ hs2 → posR v ≤ x.1) : TYH u w g α γ (hs1 ++ hs2) := by
  intro H σ hH hE hl
  obtain ⟨H1, a1, a2, a3⟩ := h1 H σ hH hE (by omega)
  have hE1 : EVq v H1 := hE.fr e1.to (fun k hk => e1.2.1 k (by rcases hk with q | q | q | q <;> subst q <;> decide)) p1 (fun p hp => (s1 p hp).1) a1
  obtain ⟨H2, b1, b2, b3⟩ := h2 H1 σ (by rw [e1.mo]; exact a2) hE1 (by omega)
  have sop : SOP v w (posR v) := SOP.ef e2 (fun p hp => (s2 p hp).1)
  refine ⟨H2, fun p hp => (b1 p (by omega)).trans (a1 p hp), by rw [b2, e1.mo], fun pc h1 h2 => ?_⟩
  by_cases q : pc < posR v
  · rcases a3 pc h1 q with z | ⟨τ, z1, z2, z3, z4⟩
    · refine Or.inl ⟨z.1.sop sop (s2 pc q) (LW.of b1) q p2, fun τ hm => ?_⟩
      rcases List.mem_append.mp hm with y | y
      · exact z.2 τ y
      · have := r2 _ y
        exact absurd q (by dsimp only at this; omega)
    · refine Or.inr ⟨τ, List.mem_append.mpr (Or.inl z1), by rw [b1 pc (by omega)]; exact z2, ?_, z4.fr sop (s2 pc q).2.2 (LW.of b1) p2⟩
      rw [b1 pc (by omega)]
      exact Nat.lt_of_le_of_lt (nr_le p2) z3
  · rcases b3 pc (by omega) h2 with z | ⟨τ, z1, z2, z3, z4⟩
    · rw [e1.bs] at z
      refine Or.inl ⟨z.1, fun τ hm => ?_⟩
      rcases List.mem_append.mp hm with y | y
      · exact q (r1 _ y)
      · exact z.2 τ y
    · rw [e1.bs] at z4
      exact Or.inr ⟨τ, List.mem_append.mpr (Or.inr z1), by rw [z2, e1.mo], z3, z4⟩
theorem TYH.ext (h : TYH u w g α β hs) (δ : List (Int × Int)) (hg : g + δ.length ≤ g1) : TYH u w g1 (α ++ δ) (β ++ δ) (hs.map fun x => (x.1, x.2 ++ δ)) := by
  intro H σ hH hE hl
  obtain ⟨H1, b1, b2, b3⟩ := h H (δ ++ σ) (by rw [hH, List.append_assoc]) hE (by rw [List.length_append]; omega)
  refine ⟨H1, b1, by rw [b2, List.append_assoc], fun pc h1 h2 => ?_⟩
  rcases b3 pc h1 h2 with z | ⟨τ, z1, z2, z3, z4⟩
  · refine Or.inl ⟨z.1, fun τ hm => ?_⟩
    obtain ⟨y, y1, y2⟩ := List.mem_map.mp hm
    have e1 : y.1 = pc := congrArg Prod.fst y2
    apply z.2 y.2
    rw [← e1]; exact y1
  · exact Or.inr ⟨τ ++ δ, List.mem_map.mpr ⟨_, z1, rfl⟩, z2, z3, by rw [List.append_assoc]; exact z4⟩
theorem PTS.to {ps : List Nat} (h : PTS v w ps) : toN w = toN v := by unfold toN; rw [h.1]
theorem PTS.pos {ps : List Nat} (h : PTS v w ps) : posR w = posR v := by unfold posR; rw [h.to, h.2.2.2.1 54 (by decide)]
theorem PTS.op {ps : List Nat} (h : PTS v w ps) (p : Nat) : opA w p = opA v p := by unfold opA; rw [h.2.2.2.1 49 (by decide)]
theorem PTS.ob {ps : List Nat} (h : PTS v w ps) (p : Nat) : bA w p = bA v p := by unfold bA; rw [h.2.2.2.1 51 (by decide)]
theorem PTS.sac {ps : List Nat} (h : PTS v w ps) {p : Nat} (hp : p ∉ ps) : SAC v w p := ⟨h.op p, h.2.2.2.2.2 p hp, h.ob p⟩
theorem PTS.sop {ps : List Nat} (h : PTS v w ps) : SOP v w hi := ⟨fun p _ => h.op p, h.2.2.2.1 30 (by decide), h.2.2.2.1 32 (by decide), h.2.2.2.1 38 (by decide), h.2.2.2.1 37 (by decide), h.2.2.2.1 42 (by decide)⟩
theorem PTS.sm {ps : List Nat} (h : PTS v w ps) : SM v w := ⟨h.1, fun k hk => h.2.2.2.1 k (fun q => hk (by subst q; decide)), fun _ _ => by rw [h.2.2.1], h.2.1⟩
theorem PTS.lsm {ps : List Nat} (h : PTS v w ps) : LSm v w := ⟨by rw [h.1], h.2.2.2.1 75 (by decide), h.2.2.2.1 76 (by decide)⟩
theorem PTS.ef {ps : List Nat} (h : PTS v w ps) (h1 : ∀ j, j ∈ ps → bsR v ≤ j ∧ j < bsR v + 8000) : EFr v w := by
  refine ⟨fun k _ => by rw [h.1], fun k hk => h.2.2.2.1 k (fun q => hk (by subst q; decide)), fun k _ => by rw [h.2.2.1], fun j' _ => by rw [h.2.2.2.1 54 (by decide)], fun p hp => h.sac (fun z => by have := h1 p z; omega), fun q => by rw [h.1]; exact q, fun q => by rw [h.2.2.2.1 54 (by decide)]; exact q⟩
/-- the jumps at ps are led here -/
theorem TYH.led {ps : List Nat} (h : TYH u v g α β hs) (hp : PTS v w ps) (hbs : bsR u ≤ posR v) (ha : ∀ x, x ∈ hs → x.1 ∈ ps → x.2 = β) (hb : ∀ x, x ∈ hs1 ↔ (x ∈ hs ∧ x.1 ∉ ps)) (hc : ∀ p, p ∈ ps → ∃ τ, (p, τ) ∈ hs) : TYH u w g α β hs1 := by
  intro H σ hH hE hl
  obtain ⟨H1, a1, a2, a3⟩ := h H σ hH hE hl
  have ew := hp.pos
  refine ⟨H1, a1, by rw [ew]; exact a2, fun pc h1 h2 => ?_⟩
  rw [ew] at h2 ⊢
  rcases a3 pc h1 h2 with z | ⟨τ, z1, z2, z3, z4⟩
  · have hn : pc ∉ ps := fun y => by
      obtain ⟨τ, y2⟩ := hc pc y
      exact z.2 τ y2
    exact Or.inl ⟨z.1.sop hp.sop (hp.sac hn) LW.rf h2 (Nat.le_refl _), fun τ y => z.2 τ ((hb _).mp y).1⟩
  · by_cases hn : pc ∈ ps
    · have et : τ = β := ha _ z1 hn
      subst et
      refine Or.inl ⟨z4 w H1 (posR v) (posR v) hp.sop (hp.ob pc) LW.rf (Nat.le_refl _) (hp.2.2.2.2.1 pc hn) ⟨hbs, Nat.le_refl _, by rw [a2, z2], by rw [a2], Or.inl (by rw [a2]; exact z3)⟩, fun τ' y => ((hb _).mp y).2 hn⟩
    · exact Or.inr ⟨τ, (hb _).mpr ⟨z1, hn⟩, z2, z3, z4.fr hp.sop (hp.ob pc) LW.rf (Nat.le_refl _)⟩
/-- one instruction that waits -/
theorem EMT.hol (h : EMT u w x a b) (h0 : 0 ≤ (u.2.2.1 54 (toN u)).toInt) (h1 : (u.2.2.1 54 (toN u)).toInt < 8000) (ht : toN u ≤ 1) (hg : α.length ≤ g) (hl : ∀ (H : Nat → Sh) (σ : List (Int × Int)), H (posR u) = (md u, nr (posR u), α ++ σ) → H (posR u + 1) = (md u, nr (posR u + 1), β ++ σ) → (α ++ σ).length ≤ 600 → nr (posR u + 1) + 8 = nr (posR u) → bsR u ≤ posR u → HOL w H (bsR u) (posR u + 1) (posR u) (τ ++ σ)) : TYH u w g α β [(posR u, τ)] := by
  have hp := h.pos h0
  have hto : posR u < 8000 * toN u + 8000 := by unfold posR; omega
  have hbs : bsR u ≤ posR u := by unfold bsR posR; omega
  intro H σ hH hE hl2
  rw [hp]
  have hH' : ∀ p, p ≤ posR u → (fun p => if p = posR u + 1 then (md u, nr (posR u + 1), β ++ σ) else H p) p = H p := fun p hp2 => by
    show (if p = posR u + 1 then _ else H p) = _
    rw [if_neg (by omega)]
  have hN : (fun p => if p = posR u + 1 then (md u, nr (posR u + 1), β ++ σ) else H p) (posR u + 1) = (md u, nr (posR u + 1), β ++ σ) := by
    show (if posR u + 1 = posR u + 1 then _ else H (posR u + 1)) = _
    rw [if_pos rfl]
  have hr : nr (posR u + 1) + 8 = nr (posR u) := by unfold nr; omega
  have hat := (hH' (posR u) (Nat.le_refl _)).trans hH
  refine ⟨fun p => if p = posR u + 1 then (md u, nr (posR u + 1), β ++ σ) else H p, hH', hN, fun pc q1 q2 => ?_⟩
  have e : pc = posR u := by omega
  subst e
  exact Or.inr ⟨τ, by simp, by rw [hat], by rw [hat]; show _ < nr (posR u); omega, hl _ σ hat hN (by rw [List.length_append]; omega) hr hbs⟩
theorem hl_jump (h : EMT u w x a b) (h0 : 0 ≤ (u.2.2.1 54 (toN u)).toInt) (h1 : (u.2.2.1 54 (toN u)).toInt < 8000) (ht : toN u ≤ 1) (hx : x = 28) (hg : α.length ≤ g) : TYH u w g α β [(posR u, α)] := by
  refine h.hol h0 h1 ht hg (fun H σ hH hN hl hr hb w' H' hi' p q1 q2 q3 q4 q5 q6 => ?_)
  have eo : opA w' (posR u) = 28 := by rw [q1.1 _ (by omega), h.2.2.2.2.2.2.1]; exact hx
  have eH : H' (posR u) = (md u, nr (posR u), α ++ σ) := by rw [q3.1 _ (by omega)]; exact hH
  refine ⟨by rw [eH]; exact hl, ?_⟩
  exact Or.inr (Or.inr (Or.inr (Or.inr (Or.inr (Or.inr (Or.inr (Or.inr (Or.inr (Or.inr (Or.inr (Or.inr (Or.inr (Or.inr (Or.inl ⟨eo, p, q5, by rw [eH]; exact q6⟩))))))))))))))
theorem hl_test {t : Int × Int} (h : EMT u w x a b) (h0 : 0 ≤ (u.2.2.1 54 (toN u)).toInt) (h1 : (u.2.2.1 54 (toN u)).toInt < 8000) (ht : toN u ≤ 1) (hx : x = 26 ∨ x = 27) (hg : α.length + 1 ≤ g) : TYH u w g (t :: α) α [(posR u, α)] := by
  refine h.hol h0 h1 ht (by simpa using hg) (fun H σ hH hN hl hr hb w' H' hi' p q1 q2 q3 q4 q5 q6 => ?_)
  have eo : opA w' (posR u) = 26 ∨ opA w' (posR u) = 27 := by rw [q1.1 _ (by omega), h.2.2.2.2.2.2.1]; exact hx
  have eH : H' (posR u) = (md u, nr (posR u), t :: α ++ σ) := by rw [q3.1 _ (by omega)]; exact hH
  refine ⟨by rw [eH]; exact hl, ?_⟩
  exact Or.inr (Or.inr (Or.inr (Or.inr (Or.inr (Or.inr (Or.inr (Or.inr (Or.inr (Or.inr (Or.inr (Or.inr (Or.inr (Or.inl ⟨eo, t, α ++ σ, p, by rw [eH]; rfl, (NX.st (w := w) hH hN hr hb).lw q1.1 q3 (by omega) q4, q5, q6⟩)))))))))))))
theorem hl_label {t : Int × Int} (h : EMT u w x a b) (h0 : 0 ≤ (u.2.2.1 54 (toN u)).toInt) (h1 : (u.2.2.1 54 (toN u)).toInt < 8000) (ht : toN u ≤ 1) (hx : x = 36) (hg : α.length + 1 ≤ g) : TYH u w g (t :: α) (t :: α) [(posR u, α)] := by
  refine h.hol h0 h1 ht (by simpa using hg) (fun H σ hH hN hl hr hb w' H' hi' p q1 q2 q3 q4 q5 q6 => ?_)
  have eo : opA w' (posR u) = 36 := by rw [q1.1 _ (by omega), h.2.2.2.2.2.2.1]; exact hx
  have eH : H' (posR u) = (md u, nr (posR u), t :: α ++ σ) := by rw [q3.1 _ (by omega)]; exact hH
  refine ⟨by rw [eH]; exact hl, ?_⟩
  exact Or.inr (Or.inr (Or.inr (Or.inr (Or.inr (Or.inr (Or.inr (Or.inr (Or.inr (Or.inr (Or.inr (Or.inr (Or.inr (Or.inr (Or.inr (Or.inr (Or.inr (Or.inr (Or.inr (Or.inr (Or.inr (Or.inl ⟨eo, t, α ++ σ, p, by rw [eH]; rfl, (NX.st (w := w) hH hN hr hb).lw q1.1 q3 (by omega) q4, q5, q6⟩)))))))))))))))))))))
theorem hl_limit {s t : Int × Int} (h : EMT u w x a b) (h0 : 0 ≤ (u.2.2.1 54 (toN u)).toInt) (h1 : (u.2.2.1 54 (toN u)).toInt < 8000) (ht : toN u ≤ 1) (hx : x = 38 ∨ x = 39) (hg : α.length + 2 ≤ g) : TYH u w g (s :: t :: α) (t :: α) [(posR u, t :: α)] := by
  refine h.hol h0 h1 ht (by simpa using hg) (fun H σ hH hN hl hr hb w' H' hi' p q1 q2 q3 q4 q5 q6 => ?_)
  have eo : opA w' (posR u) = 38 ∨ opA w' (posR u) = 39 := by rw [q1.1 _ (by omega), h.2.2.2.2.2.2.1]; exact hx
  have eH : H' (posR u) = (md u, nr (posR u), s :: t :: α ++ σ) := by rw [q3.1 _ (by omega)]; exact hH
  refine ⟨by rw [eH]; exact hl, ?_⟩
  exact Or.inr (Or.inr (Or.inr (Or.inr (Or.inr (Or.inr (Or.inr (Or.inr (Or.inr (Or.inr (Or.inr (Or.inr (Or.inr (Or.inr (Or.inr (Or.inr (Or.inr (Or.inr (Or.inr (Or.inr (Or.inr (Or.inr (Or.inr ⟨eo, s, t, α ++ σ, p, by rw [eH]; rfl, (NX.st (w := w) hH hN hr hb).lw q1.1 q3 (by omega) q4, q5, q6⟩))))))))))))))))))))))
end RHol
