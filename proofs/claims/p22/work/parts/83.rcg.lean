/-! The reference's making of code: the state while it makes, one instruction, pieces joined. -/
def act (u : RSt) : Prop := ¬ u.1 69 = 0 ∧ u.1 67 = 0
def toN (u : RSt) : Nat := (u.1 56).toNatClampNeg
def bsR (u : RSt) : Nat := 8000 * toN u
def posR (u : RSt) : Nat := 8000 * toN u + (u.2.2.1 54 (toN u)).toInt.toNat
def nr (p : Nat) : Nat := 8 * (20000 - p)
/-- the mode of what is made: task 0, block 1, function 2 -/
def md (u : RSt) : Nat := if u.1 70 = 3 then 2 else if u.1 70 = 2 then 1 else 0
def SAC (u w : RSt) (p : Nat) : Prop := opA w p = opA u p ∧ aA w p = aA u p ∧ bA w p = bA u p
/-- what the making of code leaves as it was -/
def EFr (u w : RSt) : Prop := (∀ k, k ∉ [65, 66, 67, 68, 74, 78, 80, 81] → w.1 k = u.1 k) ∧ (∀ k, k ∉ [49, 50, 51, 54, 75, 76] → w.2.2.1 k = u.2.2.1 k) ∧ (∀ k, k ∉ [52, 53] → w.2.2.2 k = u.2.2.2 k) ∧ (∀ j, j ≠ toN u → w.2.2.1 54 j = u.2.2.1 54 j) ∧ (∀ p, p < bsR u ∨ bsR u + 8000 ≤ p → SAC u w p) ∧ (¬ u.1 67 = 0 → ¬ w.1 67 = 0) ∧ ((u.2.2.1 54 (toN u)).toInt ≤ 8000 → (w.2.2.1 54 (toN u)).toInt ≤ 8000)
def EVq (u : RSt) (H : Nat → Sh) : Prop := (∀ f : Nat, (f : Int) < (u.2.2.1 37 (toN u)).toInt → ENT u H (bsR u) (posR u) (u.2.2.1 32 (24 * toN u + 8 + f)) 2) ∧ (∀ i : Nat, (i : Int) < (u.2.2.1 42 (toN u)).toInt → ENT u H (bsR u) (posR u) (u.2.2.1 32 (u.2.2.1 38 (24 * toN u + i)).toNatClampNeg) 1)
/-- from u to w: code that takes α from the stack and leaves β -/
def TYP (u w : RSt) (g : Nat) (α β : List (Int × Int)) : Prop := ∀ (H : Nat → Sh) (σ : List (Int × Int)), H (posR u) = (md u, nr (posR u), α ++ σ) → EVq u H → σ.length + g ≤ 600 → ∃ H' : Nat → Sh, (∀ p, p ≤ posR u → H' p = H p) ∧ H' (posR w) = (md u, nr (posR w), β ++ σ) ∧ ∀ pc, posR u ≤ pc → pc < posR w → LC w H' (bsR u) (posR w) pc
def GEN (u w : RSt) (g c : Nat) (α β : List (Int × Int)) : Prop := posR u ≤ posR w ∧ posR w ≤ posR u + c ∧ (∀ p, p < posR u → SAC u w p) ∧ TYP u w g α β
/-- one instruction was put -/
def EMT (u w : RSt) (o a b : Int32) : Prop := w.1 = u.1 ∧ w.2.1 = u.2.1 ∧ w.2.2.2 = u.2.2.2 ∧ (∀ k, k ∉ [49, 50, 51, 54] → w.2.2.1 k = u.2.2.1 k) ∧ (w.2.2.1 54 (toN u)).toInt = (u.2.2.1 54 (toN u)).toInt + 1 ∧ (∀ j, j ≠ toN u → w.2.2.1 54 j = u.2.2.1 54 j) ∧ opA w (posR u) = o ∧ aA w (posR u) = a ∧ bA w (posR u) = b ∧ (∀ p, p ≠ posR u → SAC u w p)
/-- numbers of the making: the side, how much was put -/
def BND (u : RSt) : Prop := 0 ≤ (u.1 56).toInt ∧ (u.1 56).toInt ≤ 1 ∧ (act u → 0 ≤ (u.2.2.1 54 (toN u)).toInt ∧ (u.2.2.1 54 (toN u)).toInt ≤ 7900)
section RCg
variable {u v w : RSt} {N g g1 g2 c c1 c2 : Nat} {α β γ δ : List (Int × Int)} {o a b : Int32}
theorem SAC.rf {p : Nat} : SAC u u p := ⟨rfl, rfl, rfl⟩
theorem SAC.tr {p : Nat} (h : SAC u v p) (h2 : SAC v w p) : SAC u w p := ⟨h2.1.trans h.1, h2.2.1.trans h.2.1, h2.2.2.trans h.2.2⟩
theorem EFr.rf : EFr u u := ⟨fun _ _ => rfl, fun _ _ => rfl, fun _ _ => rfl, fun _ _ => rfl, fun _ _ => SAC.rf, fun h => h, fun h => h⟩
theorem EFr.to (h : EFr u w) : toN w = toN u := by unfold toN; rw [h.1 56 (by decide)]
theorem EFr.tr (h : EFr u v) (h2 : EFr v w) : EFr u w := by
  have e := h.to
  obtain ⟨a1, a2, a3, a4, a5, a6, a7⟩ := h
  obtain ⟨b1, b2, b3, b4, b5, b6, b7⟩ := h2
  have eb : bsR v = bsR u := by unfold bsR; rw [e]
  rw [e] at b4 b7
  rw [eb] at b5
  exact ⟨fun k hk => (b1 k hk).trans (a1 k hk), fun k hk => (b2 k hk).trans (a2 k hk), fun k hk => (b3 k hk).trans (a3 k hk), fun j hj => (b4 j hj).trans (a4 j hj), fun p hp => (a5 p hp).tr (b5 p hp), fun h => b6 (a6 h), fun h => b7 (a7 h)⟩
theorem EFr.mo (h : EFr u w) : md w = md u := by unfold md; rw [h.1 70 (by decide)]
theorem EFr.bs (h : EFr u w) : bsR w = bsR u := by unfold bsR; rw [h.to]
theorem EMT.to (h : EMT u w o a b) : toN w = toN u := by unfold toN; rw [h.1]
theorem EMT.pos (h : EMT u w o a b) (h0 : 0 ≤ (u.2.2.1 54 (toN u)).toInt) : posR w = posR u + 1 := by
  have e := h.to
  obtain ⟨-, -, -, -, h5, -⟩ := h
  unfold posR
  rw [e, h5]
  omega
theorem EMT.ef (h : EMT u w o a b) (h0 : 0 ≤ (u.2.2.1 54 (toN u)).toInt) (h1 : (u.2.2.1 54 (toN u)).toInt < 8000) : EFr u w := by
  obtain ⟨a1, a2, a3, a4, a5, a6, a7, a8, a9, a10⟩ := h
  refine ⟨fun k _ => by rw [a1], fun k hk => a4 k (fun q => hk ?_), fun k _ => by rw [a3], a6, fun p hp => a10 p ?_, fun q => by rw [a1]; exact q, fun q => by rw [a5]; omega⟩
  · simp only [List.mem_cons, List.not_mem_nil, or_false] at q ⊢
    omega
  · intro e
    unfold posR at e
    unfold bsR at hp
    omega
theorem r_emit {l1 l2 l3 : Int32} (hb : BND u) : wp (F_emit N l1 l2 l3 u) (fun r w => (¬ act u ∧ w = u) ∨ (act u ∧ r.toInt = posR u ∧ EMT u w l1 l2 l3)) := by
  obtain ⟨t0, t1, hb⟩ := hb
  unfold F_emit B_emit_0
  refine wp_if.mpr ⟨fun q => wp_some.mpr (Or.inl ⟨fun h => h.1 q, rfl⟩), fun q => wp_if.mpr ⟨fun q2 => ?_, fun q2 => wp_some.mpr (Or.inl ⟨fun h => q2 h.2, rfl⟩)⟩⟩
  have ha : act u := ⟨q, q2⟩
  obtain ⟨m0, m1⟩ := hb ha
  have v2 : vp_in (u.1 56) 2 := vin_iff.mpr ⟨t0, by omega⟩
  have e8 : (8000 : Int32).toInt = 8000 := by decide
  have e1 : (1 : Int32).toInt = 1 := by decide
  have em : (8000 * u.1 56).toInt = 8000 * (u.1 56).toInt := by rw [tI_mul (by rw [e8]; omega) (by rw [e8]; omega), e8]
  have hto : toN u = (u.1 56).toInt.toNat := rfl
  have ep : (8000 * u.1 56 + u.2.2.1 54 (u.1 56).toNatClampNeg).toInt = (posR u : Int) := by
    have m0' : 0 ≤ (u.2.2.1 54 (u.1 56).toNatClampNeg).toInt := m0
    have m1' : (u.2.2.1 54 (u.1 56).toNatClampNeg).toInt ≤ 7900 := m1
    rw [tI_add (by omega) (by omega), em]
    unfold posR
    show _ = ((8000 * toN u + (u.2.2.1 54 (u.1 56).toNatClampNeg).toInt.toNat : Nat) : Int)
    omega
  have hp : posR u < 16000 := by unfold posR; omega
  have vp : vp_in (8000 * u.1 56 + u.2.2.1 54 (u.1 56).toNatClampNeg) 16000 := vin_iff.mpr ⟨by omega, by omega⟩
  have np : (8000 * u.1 56 + u.2.2.1 54 (u.1 56).toNatClampNeg).toNatClampNeg = posR u := by show (8000 * u.1 56 + u.2.2.1 54 (u.1 56).toNatClampNeg).toInt.toNat = _; omega
  have e1' : (u.2.2.1 54 (u.1 56).toNatClampNeg + 1).toInt = (u.2.2.1 54 (u.1 56).toNatClampNeg).toInt + 1 := by
    have m0' : 0 ≤ (u.2.2.1 54 (u.1 56).toNatClampNeg).toInt := m0
    have m1' : (u.2.2.1 54 (u.1 56).toNatClampNeg).toInt ≤ 7900 := m1
    rw [tI_add (by omega) (by omega), e1]
  refine wp_rd.mpr ⟨v2, wp_rd.mpr ⟨v2, wp_wr.mpr ⟨v2, wp_wr.mpr ⟨vp, wp_wr.mpr ⟨vp, wp_wr.mpr ⟨vp, wp_some.mpr (Or.inr ⟨ha, ep, ?_⟩)⟩⟩⟩⟩⟩⟩
  rw [np]
  refine ⟨rfl, rfl, rfl, fun k hk => ?_, ?_, fun j hj => ?_, ?_, ?_, ?_, fun p hp => ⟨?_, ?_, ?_⟩⟩
  · simp only [List.mem_cons, List.not_mem_nil, or_false, not_or] at hk
    rw [sA_3, if_neg hk.2.2.1, sA_3, if_neg hk.2.1, sA_3, if_neg hk.1, sA_3, if_neg hk.2.2.2]
  · show (upd (u.2.2.1 54) (u.1 56).toNatClampNeg _ (u.1 56).toNatClampNeg).toInt = _
    unfold upd
    rw [if_pos rfl]
    exact e1'
  · show upd (u.2.2.1 54) (u.1 56).toNatClampNeg _ j = _
    unfold upd
    rw [if_neg (show ¬ j = (u.1 56).toNatClampNeg from hj)]
  · show upd (u.2.2.1 49) (posR u) l1 (posR u) = l1
    unfold upd
    rw [if_pos rfl]
  · show upd (u.2.2.1 50) (posR u) l2 (posR u) = l2
    unfold upd
    rw [if_pos rfl]
  · show upd (u.2.2.1 51) (posR u) l3 (posR u) = l3
    unfold upd
    rw [if_pos rfl]
  · show upd (u.2.2.1 49) (posR u) l1 p = u.2.2.1 49 p
    unfold upd
    rw [if_neg hp]
  · show upd (u.2.2.1 50) (posR u) l2 p = u.2.2.1 50 p
    unfold upd
    rw [if_neg hp]
  · show upd (u.2.2.1 51) (posR u) l3 p = u.2.2.1 51 p
    unfold upd
    rw [if_neg hp]
theorem EVq.fr {H H' : Nat → Sh} (h : EVq u H) (ht : toN w = toN u) (hf : ∀ k, k = 32 ∨ k = 37 ∨ k = 38 ∨ k = 42 → w.2.2.1 k = u.2.2.1 k) (hp : posR u ≤ posR w) (ho : ∀ p, p < posR u → opA w p = opA u p) (hH : ∀ p, p ≤ posR u → H' p = H p) : EVq w H' := by
  have eb : bsR w = bsR u := by unfold bsR; rw [ht]
  unfold EVq
  rw [ht, eb, hf 32 (by decide), hf 37 (by decide), hf 38 (by decide), hf 42 (by decide)]
  exact ⟨fun f q => (h.1 f q).fr ho hH hp, fun i q => (h.2 i q).fr ho hH hp⟩
theorem TYP.tr (h1 : TYP u v g1 α β) (h2 : TYP v w g2 β γ) (p1 : posR u ≤ posR v) (p2 : posR v ≤ posR w) (e1 : EFr u v) (e2 : EFr v w) (s1 : ∀ p, p < posR u → SAC u v p) (s2 : ∀ p, p < posR v → SAC v w p) (hg1 : g1 ≤ g) (hg2 : g2 ≤ g) : TYP u w g α γ := by
  intro H σ hH hE hl
  obtain ⟨H1, a1, a2, a3⟩ := h1 H σ hH hE (by omega)
  have hE1 : EVq v H1 := hE.fr e1.to (fun k hk => e1.2.1 k (by rcases hk with q | q | q | q <;> subst q <;> decide)) p1 (fun p hp => (s1 p hp).1) a1
  obtain ⟨H2, b1, b2, b3⟩ := h2 H1 σ (by rw [e1.mo]; exact a2) hE1 (by omega)
  refine ⟨H2, fun p hp => (b1 p (by omega)).trans (a1 p hp), by rw [b2, e1.mo], fun pc h1 h2 => ?_⟩
  by_cases q : pc < posR v
  · have := a3 pc h1 q
    refine this.fr ⟨fun p hp => (s2 p hp).1, (s2 pc q).2.1, (s2 pc q).2.2, e2.2.1 30 (by decide), e2.2.1 32 (by decide), e2.2.1 38 (by decide), e2.2.1 37 (by decide), e2.2.1 42 (by decide)⟩ b1 q p2
  · have := b3 pc (by omega) h2
    rw [e1.bs] at this
    exact this
theorem GEN.tr (h1 : GEN u v g1 c1 α β) (h2 : GEN v w g2 c2 β γ) (e1 : EFr u v) (e2 : EFr v w) (hg1 : g1 ≤ g) (hg2 : g2 ≤ g) (hc : c1 + c2 ≤ c) : GEN u w g c α γ := by
  obtain ⟨a1, a2, a3, a4⟩ := h1
  obtain ⟨b1, b2, b3, b4⟩ := h2
  exact ⟨by omega, by omega, fun p hp => (a3 p hp).tr (b3 p (by omega)), a4.tr b4 a1 b1 e1 e2 a3 b3 hg1 hg2⟩
theorem GEN.ext (h : GEN u w g c α β) (δ : List (Int × Int)) (hg : g + δ.length ≤ g1) (hc : c ≤ c1) : GEN u w g1 c1 (α ++ δ) (β ++ δ) := by
  obtain ⟨a1, a2, a3, a4⟩ := h
  refine ⟨a1, by omega, a3, fun H σ hH hE hl => ?_⟩
  obtain ⟨H1, b1, b2, b3⟩ := a4 H (δ ++ σ) (by rw [hH, List.append_assoc]) hE (by rw [List.length_append]; omega)
  exact ⟨H1, b1, by rw [b2, List.append_assoc], b3⟩
/-- nothing was put -/
theorem GEN.none (hp : posR w = posR u) (hs : ∀ p, p < posR u → SAC u w p) : GEN u w 0 c α α :=
  ⟨by omega, by omega, hs, fun H σ hH _ _ => ⟨H, fun _ _ => rfl, by rw [hp]; exact hH, fun pc h1 h2 => by omega⟩⟩
/-- one instruction: LC there is enough -/
theorem EMT.gen (h : EMT u w o a b) (ht : toN u ≤ 1) (h0 : 0 ≤ (u.2.2.1 54 (toN u)).toInt) (h1 : (u.2.2.1 54 (toN u)).toInt < 8000) (hg : α.length ≤ g) (hl : ∀ (H : Nat → Sh) (σ : List (Int × Int)), H (posR u) = (md u, nr (posR u), α ++ σ) → H (posR u + 1) = (md u, nr (posR u + 1), β ++ σ) → EVq w H → (α ++ σ).length ≤ 600 → nr (posR u + 1) + 8 = nr (posR u) → bsR u ≤ posR u → LC w H (bsR u) (posR u + 1) (posR u)) : GEN u w g 1 α β := by
  have hp := h.pos h0
  have hef := h.ef h0 h1
  have hto : posR u < 8000 * toN u + 8000 := by unfold posR; omega
  have hbs : bsR u ≤ posR u := by unfold bsR posR; omega
  refine ⟨by omega, by omega, fun p hp => h.2.2.2.2.2.2.2.2.2 p (by omega), fun H σ hH hE hl2 => ?_⟩
  rw [hp]
  have hH' : ∀ p, p ≤ posR u → (fun p => if p = posR u + 1 then (md u, nr (posR u + 1), β ++ σ) else H p) p = H p := fun p hp2 => by
    show (if p = posR u + 1 then _ else H p) = _
    rw [if_neg (by omega)]
  have hN : (fun p => if p = posR u + 1 then (md u, nr (posR u + 1), β ++ σ) else H p) (posR u + 1) = (md u, nr (posR u + 1), β ++ σ) := by
    show (if posR u + 1 = posR u + 1 then _ else H (posR u + 1)) = _
    rw [if_pos rfl]
  refine ⟨fun p => if p = posR u + 1 then (md u, nr (posR u + 1), β ++ σ) else H p, hH', hN, fun pc q1 q2 => ?_⟩
  have e : pc = posR u := by omega
  subst e
  refine hl _ σ ((hH' _ (Nat.le_refl _)).trans hH) hN ?_ (by rw [List.length_append]; omega) (by unfold nr; omega) hbs
  exact hE.fr hef.to (fun k hk => hef.2.1 k (by rcases hk with q | q | q | q <;> subst q <;> decide)) (by omega) (fun p hp => (h.2.2.2.2.2.2.2.2.2 p (by omega)).1) hH'
end RCg
