/-! The class's first pass over the tokens: what it goes through is a sentence of the grammar (GX, ..), or it refuses. -/
/-- the tokens of u0: their types, how many -/
def tyF (u0 : CSt) : Nat → Int32 := cA u0 203
def isEnd (t : Int32) : Prop := t = 0 ∨ t = 131 ∨ t = 132
def TB (u0 : CSt) (n : Nat) : Prop := (cI u0 4).toInt = n ∧ n ≤ 1500 ∧ isEnd (tyF u0 n)
def GO (u0 u : CSt) : Prop := u.2 = u0.2 ∧ ∀ k, k ≠ 5 → k ≠ 6 → k ≠ 7 → k ≠ 8 → u.1 k = u0.1 k
def GR (u0 u : CSt) (i o : Nat) : Prop := GO u0 u ∧ (cI u 5).toInt = i ∧ (cI u 8).toInt = o
def GB (u0 u : CSt) : Prop := GO u0 u ∧ TK u
def GS (u0 : CSt) (S : CSt → Prop) : Sum Nat Int32 → CSt → Prop := fun y w => (y = .inl 0 ∧ GB u0 w) ∨ ∃ r, y = .inr r ∧ S w
section Gram
variable {N n i o : Nat} {u0 u : CSt}
theorem GO.xI {k : Nat} {v : Int32} (h : GO u0 u) (hk : k = 5 ∨ k = 6 ∨ k = 7 ∨ k = 8) : GO u0 (xI u k v) := by
  refine ⟨h.1, fun j h5 h6 h7 h8 => ?_⟩
  rw [xI_1, if_neg (by omega)]
  exact h.2 j h5 h6 h7 h8
theorem GR.tk (hb : TB u0 n) (h : GR u0 u i o) (hi : i ≤ n) : TK u := by
  obtain ⟨⟨h1, h2⟩, h3, h4⟩ := h
  obtain ⟨b1, b2, b3⟩ := hb
  have h5 : cI u 4 = cI u0 4 := h2 4 (by decide) (by decide) (by decide) (by decide)
  refine ⟨by omega, ?_, ?_⟩
  · rw [h5]; omega
  · rw [h5]; omega
theorem GR.ty (h : GR u0 u i o) : tyH u = tyF u0 i := by
  obtain ⟨⟨h1, h2⟩, h3, h4⟩ := h
  unfold tyH tyF
  have e1 : cA u 203 = cA u0 203 := by show u.2.2.1 203 = u0.2.2.1 203; rw [h1]
  have e2 : (cI u 5).toNatClampNeg = i := by show (cI u 5).toInt.toNat = i; omega
  rw [e1, e2]
theorem GR.lt (hb : TB u0 n) (hi : i ≤ n) (ht : ¬ isEnd (tyF u0 i)) : i < n := by
  rcases Nat.lt_or_eq_of_le hi with h | h
  · exact h
  · subst h; exact absurd hb.2.2 ht
theorem GR.gb (hb : TB u0 n) (h : GR u0 u i o) (hi : i ≤ n) : GB u0 u := ⟨h.1, h.tk hb hi⟩
theorem g_next {β : Type} {k : Int32 → CSt → Option (β × CSt)} {Q : β → CSt → Prop} (hb : TB u0 n) (h : GR u0 u i o) (hi : i < n) (kk : ∀ r w, GR u0 w (i + 1) o → wq (k r w) Q) : wq (bc (F_X9_next N u) k) Q := by
  rw [wq_bc, q_next]
  have ht := h.tk hb (Nat.le_of_lt hi)
  have hc : ¬ cI u 4 ≤ cI u 5 := by
    intro q
    have q1 := Int32.le_iff_toInt_le.mp q
    have h5 : cI u 4 = cI u0 4 := h.1.2 4 (by decide) (by decide) (by decide) (by decide)
    have h6 := h.2.1
    have h7 := hb.1
    rw [h5] at q1
    omega
  refine ⟨fun q => absurd q hc, fun _ => kk _ _ ⟨h.1.xI (Or.inl rfl), ?_, ?_⟩⟩
  · have h9 := (ht.step hc).2
    have h8 := h.2.1
    show ((xI u 5 (cI u 5 + 1)).1 5).toInt = _
    rw [h9]; omega
  · exact h.2.2
theorem g_is {β : Type} {t : Int32} {k : Int32 → CSt → Option (β × CSt)} {Q : β → CSt → Prop} (hb : TB u0 n) (h : GR u0 u i o) (hi : i ≤ n) (k1 : tyF u0 i = t → wq (k 1 u) Q) (k0 : ¬ tyF u0 i = t → wq (k 0 u) Q) : wq (bc (F_X9_is N t u) k) Q := by
  rw [wq_bc, q_is (h.tk hb hi), h.ty]
  exact ⟨k1, k0⟩
theorem g_type {β : Type} {k : Int32 → CSt → Option (β × CSt)} {Q : β → CSt → Prop} (hb : TB u0 n) (h : GR u0 u i o) (hi : i ≤ n) (kk : wq (k (tyF u0 i) u) Q) : wq (bc (F_X9_type N u) k) Q := by
  rw [wq_bc, q_type (h.tk hb hi), h.ty]
  exact kk
theorem gbt {γ : Type} {X : Option (Sum Nat Int32 × CSt)} {k : Int32 → CSt → Option (Sum Nat Int32 × CSt)} {S S' : CSt → Prop} (hX : wq X (GS u0 S)) (h1 : ∀ r w, S w → wq (k r w) (GS u0 S')) : wq (bt X k) (GS u0 S') := by
  rw [wq_bt]
  refine wq_mono hX (fun y w hy => ?_)
  rcases hy with ⟨e, hb⟩ | ⟨r, e, hs⟩
  · exact ⟨fun x hx => by subst hx; cases e; exact Or.inl ⟨rfl, hb⟩, fun r hr => by subst hr; cases e⟩
  · exact ⟨fun x hx => (by subst hx; cases e), fun r' hr => (by subst hr; cases e; exact h1 _ w hs)⟩
theorem gend {r : Int32} {w : CSt} {S : CSt → Prop} (h : S w) : wq (some (.inr r, w)) (GS u0 S) := wq_some.mpr (Or.inr ⟨r, rfl, h⟩)
theorem g_refuse {S : CSt → Prop} (hb : TB u0 n) (h : GR u0 u i o) (hi : i ≤ n) : wq (F_X9_refuseToken N u) (GS u0 S) := by
  have ht := h.tk hb hi
  rw [q_refuseToken ht]
  have hg : ∀ a b : Int32, GB u0 (xI (xI u 6 a) 7 b) := fun a b => ⟨(h.1.xI (Or.inr (Or.inl rfl))).xI (Or.inr (Or.inr (Or.inl rfl))), ht⟩
  exact ⟨fun _ => Or.inl ⟨rfl, hg _ _⟩, fun _ => Or.inl ⟨rfl, hg _ _⟩⟩
theorem g_take {t : Int32} (hb : TB u0 n) (h : GR u0 u i o) (hi : i ≤ n) (ht : ¬ isEnd t) : wq (F_X9_take N t u) (GS u0 (fun w => tyF u0 i = t ∧ i < n ∧ GR u0 w (i + 1) o)) := by
  have hk := h.tk hb hi
  simp only [F_X9_take, B_X9_take_0, wq_rd, wq_if, hk.inn, true_and]
  have e : cA u 203 (cI u 5).toNatClampNeg = tyF u0 i := h.ty
  rw [e]
  refine ⟨fun c => ?_, fun c => ?_⟩
  · have hi2 : i < n := GR.lt hb hi (by rw [c]; exact ht)
    unfold B_X9_take_30
    exact g_next hb h hi2 (fun r w hw => gend ⟨c, hi2, hw⟩)
  · rw [wq_bc, q_misfit hk]
    have hg : ∀ a b : Int32, GB u0 (xI (xI u 6 a) 7 b) := fun a b => ⟨(h.1.xI (Or.inr (Or.inl rfl))).xI (Or.inr (Or.inr (Or.inl rfl))), hk⟩
    refine ⟨fun _ => ?_, fun _ => ?_⟩ <;>
    · rw [wq_rd]
      refine ⟨hk.inn, ?_⟩
      rw [wq_bt, q_refuse]
      exact ⟨fun x hx => by cases hx; exact Or.inl ⟨rfl, hg _ _⟩, fun r hr => by cases hr⟩
theorem g_opens {t : Int32} (hb : TB u0 n) (h : GR u0 u i o) (hi : i ≤ n) (ht : ¬ isEnd t) (ho : o ≤ 24) : wq (F_X0_opens N t u) (GS u0 (fun w => tyF u0 i = t ∧ o < 24 ∧ i < n ∧ GR u0 w (i + 1) (o + 1))) := by
  have hk := h.tk hb hi
  simp only [F_X0_opens, B_X0_opens_0]
  have h20 : wq (B_X0_opens_20 N u) (GS u0 (fun w => tyF u0 i = t ∧ o < 24 ∧ i < n ∧ GR u0 w (i + 1) (o + 1))) := by
    unfold B_X0_opens_20
    exact gbt (γ := Unit) (S := fun _ => False) (g_refuse hb h hi) (fun _ _ q => q.elim)
  refine g_is hb h hi (fun c => ?_) (fun c => ?_)
  · rw [wq_if]
    refine ⟨fun q => absurd q (by decide), fun _ => ?_⟩
    rw [wq_if]
    refine ⟨fun c2 => ?_, fun _ => h20⟩
    have h24 : (cI u 8).toInt < 24 := by simpa using Int32.lt_iff_toInt_lt.mp c2
    have h8 := h.2.2
    have hi2 : i < n := GR.lt hb hi (by rw [c]; exact ht)
    unfold B_X0_opens_27
    rw [wq_pc]
    have h1 : GR u0 (xI u 8 (cI u 8 + 1)) i (o + 1) := by
      refine ⟨h.1.xI (Or.inr (Or.inr (Or.inr rfl))), h.2.1, ?_⟩
      show (cI u 8 + 1).toInt = _
      have h11 : (1 : Int32).toInt = 1 := by decide
      rw [tI_add (by omega) (by omega), h11]; omega
    exact g_next hb h1 hi2 (fun r w hw => gend ⟨c, by omega, hi2, hw⟩)
  · rw [wq_if]
    exact ⟨fun _ => h20, fun q => absurd rfl q⟩
/-- open-- -/
theorem g_less {S : CSt → Prop} {r : Int32} (h : GR u0 u i (o + 1)) (hS : ∀ w, GR u0 w i o → S w) : wq (pc (xI u 8 (cI u 8 - 1)) fun w => some (.inr r, w)) (GS u0 S) := by
  rw [wq_pc]
  refine gend (hS _ ⟨h.1.xI (Or.inr (Or.inr (Or.inr rfl))), h.2.1, ?_⟩)
  show (cI u 8 - 1).toInt = _
  have h8 := h.2.2
  have h11 : (1 : Int32).toInt = 1 := by decide
  have h9 : (cI u 8).toInt < 2147483648 := Int32.toInt_lt _
  rw [tI_sub (by omega) (by omega), h11]; omega
theorem g_closes {t : Int32} (hb : TB u0 n) (h : GR u0 u i (o + 1)) (hi : i ≤ n) (ht : ¬ isEnd t) : wq (F_X0_closes N t u) (GS u0 (fun w => tyF u0 i = t ∧ i < n ∧ GR u0 w (i + 1) o)) := by
  simp only [F_X0_closes, B_X0_closes_0]
  refine gbt (γ := Unit) (g_take hb h hi ht) (fun r w hw => ?_)
  exact g_less hw.2.2 (fun w2 h2 => ⟨hw.1, hw.2.1, h2⟩)
/-- a Kind, a Const -/
def gK (u0 : CSt) (i : Nat) : Prop := 12 ≤ tyF u0 i ∧ tyF u0 i ≤ 16
theorem g_kind (hb : TB u0 n) (h : GR u0 u i o) (hi : i ≤ n) : wq (F_X0_kind N u) (GS u0 (fun w => gK u0 i ∧ i < n ∧ GR u0 w (i + 1) o)) := by
  have hk := h.tk hb hi
  simp only [F_X0_kind, B_X0_kind_0]
  rw [wq_bc, q_isKindWord hk, h.ty]
  have hr : wq (if (0 : Int32) = 0 then bt (F_X9_refuseToken N u) fun _ u_5 => B_X0_kind_17 N u_5 else B_X0_kind_17 N u) (GS u0 (fun w => gK u0 i ∧ i < n ∧ GR u0 w (i + 1) o)) := by
    rw [if_pos rfl]
    exact gbt (γ := Unit) (S := fun _ => False) (g_refuse hb h hi) (fun _ _ q => q.elim)
  refine ⟨fun _ => hr, fun c => ⟨fun _ => hr, fun c2 => ?_⟩⟩
  rw [if_neg (by decide)]
  have hg : gK u0 i := ⟨Int32.not_lt.mp c, Int32.not_lt.mp c2⟩
  have hi2 : i < n := GR.lt hb hi (by
    rintro (q | q | q) <;> (rw [q] at c c2; revert c c2; decide))
  unfold B_X0_kind_17
  exact g_next hb h hi2 (fun r w hw => gend ⟨hg, hi2, hw⟩)
/-- Const from i to j -/
def gC (u0 : CSt) (i j : Nat) : Prop := ∃ k, (k = i ∧ ¬ tyF u0 i = 45 ∨ k = i + 1 ∧ tyF u0 i = 45) ∧ (tyF u0 k = 129 ∨ tyF u0 k = 130) ∧ j = k + 1
theorem g_constant (hb : TB u0 n) (h : GR u0 u i o) (hi : i ≤ n) : wq (F_X0_constant N u) (GS u0 (fun w => ∃ j, gC u0 i j ∧ i < j ∧ j ≤ n ∧ GR u0 w j o)) := by
  have h19 : ∀ (k : Nat) (w : CSt), GR u0 w k o → k ≤ n → (k = i ∧ ¬ tyF u0 i = 45 ∨ k = i + 1 ∧ tyF u0 i = 45) → wq (B_X0_constant_19 N w) (GS u0 (fun w => ∃ j, gC u0 i j ∧ i < j ∧ j ≤ n ∧ GR u0 w j o)) := by
    intro k w hw hkn hk
    have fin : (tyF u0 k = 129 ∨ tyF u0 k = 130) → wq (B_X0_constant_52 N w) (GS u0 (fun w => ∃ j, gC u0 i j ∧ i < j ∧ j ≤ n ∧ GR u0 w j o)) := by
      intro hc
      have hk2 : k < n := GR.lt hb hkn (by rintro (q | q | q) <;> rcases hc with c | c <;> (rw [c] at q; revert q; decide))
      unfold B_X0_constant_52
      exact g_next hb hw hk2 (fun r w2 h2 => gend ⟨k + 1, ⟨k, hk, hc, rfl⟩, by omega, by omega, h2⟩)
    unfold B_X0_constant_19
    refine g_is hb hw hkn (fun c => ?_) (fun c => ?_)
    · rw [if_neg (by decide)]; exact fin (Or.inl c)
    · rw [if_pos rfl]
      refine g_is hb hw hkn (fun c2 => ?_) (fun c2 => ?_)
      · rw [if_neg (by decide)]; exact fin (Or.inr c2)
      · rw [if_pos rfl]
        exact gbt (γ := Unit) (S := fun _ => False) (g_refuse hb hw hkn) (fun _ _ q => q.elim)
  simp only [F_X0_constant, B_X0_constant_0]
  refine g_is hb h hi (fun c => ?_) (fun c => ?_)
  · rw [if_neg (by decide)]
    have hi2 : i < n := GR.lt hb hi (by rw [c]; rintro (q | q | q) <;> (revert q; decide))
    exact g_next hb h hi2 (fun r w hw => h19 (i + 1) w hw (by omega) (Or.inr ⟨rfl, c⟩))
  · rw [if_pos rfl]
    exact h19 i u h hi (Or.inl ⟨rfl, c⟩)
end Gram
