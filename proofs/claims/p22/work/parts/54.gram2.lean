/-! Items of the grammar that hold no E. -/
theorem wq_lpF {α β : Type} {body : (α → Option (β × CSt)) → α → Option (β × CSt)} {Q : α → β → CSt → Prop} (I : Nat → α → Prop) (hb : ∀ (d : Nat) (R : α → Option (β × CSt)) (a : α), I d a → (∀ d' a', d' < d → I d' a' → wq (R a') (Q a')) → wq (body R a) (Q a)) : ∀ (n d : Nat) (a : α), d < n → I d a → wq (lp body n a) (Q a) := by
  intro n
  induction n with
  | zero => intro d a h; omega
  | succ n ih => intro d a h hi; exact hb d (lp body n) a hi (fun d' a' hd hi' => ih d' a' (by omega) hi')
/-- where the tokens are -/
def posT (u : CSt) : Nat := (cI u 5).toInt.toNat
def gLabel (u0 : CSt) (i j : Nat) : Prop := ∃ k, gC u0 i k ∧ (¬ tyF u0 k = 11822 ∧ j = k ∨ tyF u0 k = 11822 ∧ gC u0 (k + 1) j)
def gBit (u0 : CSt) (i j : Nat) : Prop := ¬ tyF u0 i = 46 ∧ j = i ∨ tyF u0 i = 46 ∧ tyF u0 (i + 1) = 129 ∧ j = i + 2
def gVar (u0 : CSt) (i j : Nat) : Prop := tyF u0 i = 128 ∧ ∃ k, (¬ tyF u0 (i + 1) = 91 ∧ k = i + 1 ∨ tyF u0 (i + 1) = 91 ∧ tyF u0 (i + 2) = 129 ∧ tyF u0 (i + 3) = 93 ∧ k = i + 4) ∧ (¬ tyF u0 k = 61 ∧ j = k ∨ tyF u0 k = 61 ∧ gC u0 (k + 1) j)
/-- , Var .. ; -/
def gVl (u0 : CSt) : Nat → Nat → Nat → Prop
  | 0, i, j => ¬ tyF u0 i = 44 ∧ tyF u0 i = 59 ∧ j = i + 1
  | c + 1, i, j => tyF u0 i = 44 ∧ ∃ k, gVar u0 (i + 1) k ∧ gVl u0 c k j
def gVariables (u0 : CSt) (i j : Nat) : Prop := gK u0 (i + 1) ∧ ∃ k c, gVar u0 (i + 2) k ∧ gVl u0 c k j
def gPlaced (u0 : CSt) (i j : Nat) : Prop := gK u0 (i + 1) ∧ tyF u0 (i + 2) = 128 ∧ tyF u0 (i + 3) = 5 ∧ tyF u0 (i + 4) = 129 ∧ tyF u0 (i + 5) = 59 ∧ j = i + 6
/-- , NAME .. ; -/
def gNl (u0 : CSt) : Nat → Nat → Nat → Prop
  | 0, i, j => ¬ tyF u0 i = 44 ∧ tyF u0 i = 59 ∧ j = i + 1
  | c + 1, i, j => tyF u0 i = 44 ∧ tyF u0 (i + 1) = 128 ∧ gNl u0 c (i + 2) j
def gUses (u0 : CSt) (i j : Nat) : Prop := tyF u0 (i + 1) = 128 ∧ tyF u0 (i + 2) = 128 ∧ ∃ c, gNl u0 c (i + 3) j
theorem nEnd {t : Int32} (h0 : ¬ t = 0) (h1 : ¬ t = 131) (h2 : ¬ t = 132) : ¬ isEnd t := by
  rintro (q | q | q)
  · exact h0 q
  · exact h1 q
  · exact h2 q
theorem one_toInt : (1 : Int32).toInt = 1 := by decide
section Gram2
variable {N n i o : Nat} {u0 u : CSt}
theorem GR.pos (h : GR u0 u i o) : posT u = i := by
  have := h.2.1
  unfold posT
  omega
theorem g_label (hb : TB u0 n) (h : GR u0 u i o) (hi : i ≤ n) : wq (F_X0_label N u) (GS u0 (fun w => ∃ j, gLabel u0 i j ∧ i < j ∧ j ≤ n ∧ GR u0 w j o)) := by
  simp only [F_X0_label, B_X0_label_0]
  refine gbt (γ := Unit) (g_constant hb h hi) (fun _ w hw => ?_)
  obtain ⟨k, hc, h1, h2, hw⟩ := hw
  refine g_is hb hw h2 (fun c => ?_) (fun c => ?_)
  · rw [if_neg (by decide)]
    refine g_next hb hw (GR.lt hb h2 (by rw [c]; exact nEnd (by decide) (by decide) (by decide))) (fun _ w2 h3 => ?_)
    refine gbt (γ := Unit) (g_constant hb h3 (by have := GR.lt hb h2 (by rw [c]; exact nEnd (by decide) (by decide) (by decide)); omega)) (fun _ w3 h4 => ?_)
    obtain ⟨j, hc2, h5, h6, h7⟩ := h4
    exact gend ⟨j, ⟨k, hc, Or.inr ⟨c, hc2⟩⟩, by omega, h6, h7⟩
  · rw [if_pos rfl]
    exact gend ⟨k, ⟨k, hc, Or.inl ⟨c, rfl⟩⟩, h1, h2, hw⟩
theorem g_bit (hb : TB u0 n) (h : GR u0 u i o) (hi : i ≤ n) : wq (F_X0_bit N u) (GS u0 (fun w => ∃ j, gBit u0 i j ∧ i ≤ j ∧ j ≤ n ∧ GR u0 w j o)) := by
  simp only [F_X0_bit, B_X0_bit_0]
  refine g_is hb h hi (fun c => ?_) (fun c => ?_)
  · rw [if_neg (by decide)]
    have hlt := GR.lt hb hi (by rw [c]; exact nEnd (by decide) (by decide) (by decide))
    refine g_next hb h hlt (fun _ w2 h3 => ?_)
    refine gbt (γ := Unit) (g_take hb h3 (by omega) (nEnd (by decide) (by decide) (by decide))) (fun _ w3 h4 => ?_)
    exact gend ⟨i + 2, Or.inr ⟨c, h4.1, rfl⟩, by omega, by have := h4.2.1; omega, h4.2.2⟩
  · rw [if_pos rfl]
    exact gend ⟨i, Or.inl ⟨c, rfl⟩, Nat.le_refl _, hi, h⟩
theorem g_oneVariable (hb : TB u0 n) (h : GR u0 u i o) (hi : i ≤ n) (ho : o ≤ 24) : wq (F_X0_oneVariable N u) (GS u0 (fun w => ∃ j, gVar u0 i j ∧ i < j ∧ j ≤ n ∧ GR u0 w j o)) := by
  simp only [F_X0_oneVariable, B_X0_oneVariable_0]
  refine gbt (γ := Unit) (g_take hb h hi (nEnd (by decide) (by decide) (by decide))) (fun _ w hw => ?_)
  obtain ⟨t0, hlt, hw⟩ := hw
  have tail : ∀ (k : Nat) (w : CSt), i + 1 ≤ k → k ≤ n → GR u0 w k o → (¬ tyF u0 (i + 1) = 91 ∧ k = i + 1 ∨ tyF u0 (i + 1) = 91 ∧ tyF u0 (i + 2) = 129 ∧ tyF u0 (i + 3) = 93 ∧ k = i + 4) → wq (B_X0_oneVariable_44 N w) (GS u0 (fun w => ∃ j, gVar u0 i j ∧ i < j ∧ j ≤ n ∧ GR u0 w j o)) := by
    intro k w hk1 hk2 hw hk
    unfold B_X0_oneVariable_44
    refine g_is hb hw hk2 (fun c => ?_) (fun c => ?_)
    · rw [if_neg (by decide)]
      have hl2 := GR.lt hb hk2 (by rw [c]; exact nEnd (by decide) (by decide) (by decide))
      refine g_next hb hw hl2 (fun _ w2 h3 => ?_)
      refine gbt (γ := Unit) (g_constant hb h3 (by omega)) (fun _ w3 h4 => ?_)
      obtain ⟨j, hc2, h5, h6, h7⟩ := h4
      exact gend ⟨j, ⟨t0, k, hk, Or.inr ⟨c, hc2⟩⟩, by omega, h6, h7⟩
    · rw [if_pos rfl]
      exact gend ⟨k, ⟨t0, k, hk, Or.inl ⟨c, rfl⟩⟩, by omega, hk2, hw⟩
  refine g_is hb hw (by omega) (fun c => ?_) (fun c => ?_)
  · rw [if_neg (by decide)]
    refine gbt (γ := Unit) (g_opens hb hw (by omega) (nEnd (by decide) (by decide) (by decide)) ho) (fun _ w2 h2 => ?_)
    obtain ⟨t1, ho2, hl2, h2⟩ := h2
    refine gbt (γ := Unit) (g_take hb h2 (by omega) (nEnd (by decide) (by decide) (by decide))) (fun _ w3 h3 => ?_)
    obtain ⟨t2, hl3, h3⟩ := h3
    refine gbt (γ := Unit) (g_closes hb h3 (by omega) (nEnd (by decide) (by decide) (by decide))) (fun _ w4 h4 => ?_)
    obtain ⟨t3, hl4, h4⟩ := h4
    exact tail (i + 4) w4 (by omega) (by omega) h4 (Or.inr ⟨c, t2, t3, rfl⟩)
  · rw [if_pos rfl]
    exact tail (i + 1) w (by omega) (by omega) hw (Or.inl ⟨c, rfl⟩)
theorem g_varl (hb : TB u0 n) (hN : 2000 ≤ N) (h : GR u0 u i o) (hi : i ≤ n) (ho : o ≤ 24) : wq (LP_X0_variables_17 N N (0, u)) (GS u0 (fun w => ∃ c j, gVl u0 c i j ∧ i < j ∧ j ≤ n ∧ GR u0 w j o)) := by
  have hb1 := hb.2.1
  have key : wq (LP_X0_variables_17 N N (0, u)) (GS u0 (fun w => ∃ c j, gVl u0 c (posT u) j ∧ posT u < j ∧ j ≤ n ∧ GR u0 w j o)) := by
    unfold LP_X0_variables_17
    refine wq_lpF (Q := fun (a : Int32 × CSt) => GS u0 (fun w => ∃ c j, gVl u0 c (posT a.2) j ∧ posT a.2 < j ∧ j ≤ n ∧ GR u0 w j o)) (fun (d : Nat) (a : Int32 × CSt) => ∃ k, GR u0 a.2 k o ∧ k ≤ n ∧ d = n - k ∧ 0 ≤ a.1.toInt ∧ a.1.toInt ≤ (k : Int)) ?_ N (n - i) (0, u) (by omega) ⟨i, h, hi, rfl, (show 0 ≤ (0 : Int32).toInt by decide), (by show (0 : Int32).toInt ≤ _; have : (0 : Int32).toInt = 0 := (by decide); omega)⟩
    rintro d R ⟨l, v⟩ ⟨k, hk, hkn, hd, hl0, hlk⟩ ih
    show wq (B_X0_variables_17 N R l v) _
    rw [hk.pos]
    unfold B_X0_variables_17
    have fin : ¬ tyF u0 k = 44 → wq (B_X0_variables_53 N v) (GS u0 (fun w => ∃ c j, gVl u0 c k j ∧ k < j ∧ j ≤ n ∧ GR u0 w j o)) := by
      intro c
      unfold B_X0_variables_53
      refine gbt (γ := Unit) (g_take hb hk hkn (nEnd (by decide) (by decide) (by decide))) (fun _ w h4 => ?_)
      exact gend ⟨0, k + 1, ⟨c, h4.1, rfl⟩, by omega, by have := h4.2.1; omega, h4.2.2⟩
    rw [wq_if]
    refine ⟨fun c => ?_, fun c => ?_⟩
    · have c1 := Int32.le_iff_toInt_le.mp c
      have e15 : (1500 : Int32).toInt = 1500 := by decide
      have hkn2 : k = n := by dsimp only at hlk; omega
      subst hkn2
      refine fin (fun q => ?_)
      have := hb.2.2
      rw [q] at this
      exact nEnd (by decide) (by decide) (by decide) this
    · refine g_is hb hk hkn (fun c2 => ?_) (fun c2 => ?_)
      · rw [if_neg (by decide)]
        have hl2 := GR.lt hb hkn (by rw [c2]; exact nEnd (by decide) (by decide) (by decide))
        refine g_next hb hk hl2 (fun _ w2 h3 => ?_)
        refine gbt (γ := Unit) (g_oneVariable hb h3 (by omega) ho) (fun _ w3 h4 => ?_)
        obtain ⟨j, hv, hj1, hj2, h5⟩ := h4
        dsimp only at hl0 hlk
        have el : (l + 1).toInt = l.toInt + 1 := by rw [tI_add (by rw [one_toInt]; omega) (by rw [one_toInt]; omega), one_toInt]
        have hr := ih (n - j) ((l + 1), w3) (by omega) ⟨j, h5, hj2, rfl, by show 0 ≤ (l + 1).toInt; omega, by show (l + 1).toInt ≤ _; omega⟩
        refine wq_mono hr (fun y w hy => ?_)
        rcases hy with hy | ⟨r, e, c3, j2, g1, g2, g3, g4⟩
        · exact Or.inl hy
        · dsimp only at g1 g2
          rw [h5.pos] at g1 g2
          exact Or.inr ⟨r, e, c3 + 1, j2, ⟨c2, j, hv, g1⟩, by omega, g3, g4⟩
      · rw [if_pos rfl]
        exact fin c2
  rw [h.pos] at key
  exact key
theorem g_variables (hb : TB u0 n) (hN : 2000 ≤ N) (h : GR u0 u i o) (hi : i < n) (ho : o ≤ 24) : wq (F_X0_variables N u) (GS u0 (fun w => ∃ j, gVariables u0 i j ∧ i < j ∧ j ≤ n ∧ GR u0 w j o)) := by
  simp only [F_X0_variables, B_X0_variables_0]
  refine g_next hb h hi (fun _ w h1 => ?_)
  refine gbt (γ := Unit) (g_kind hb h1 (by omega)) (fun _ w2 h2 => ?_)
  obtain ⟨k1, k2, h2⟩ := h2
  refine gbt (γ := Unit) (g_oneVariable hb h2 (by omega) ho) (fun _ w3 h3 => ?_)
  obtain ⟨j, hv, hj1, hj2, h3⟩ := h3
  refine wq_mono (g_varl hb hN h3 hj2 ho) (fun y w hy => ?_)
  rcases hy with hy | ⟨r, e, c3, j2, g1, g2, g3, g4⟩
  · exact Or.inl hy
  · exact Or.inr ⟨r, e, j2, ⟨k1, j, c3, hv, g1⟩, by omega, g3, g4⟩
theorem g_placed (hb : TB u0 n) (h : GR u0 u i o) (hi : i < n) : wq (F_X0_placed N u) (GS u0 (fun w => ∃ j, gPlaced u0 i j ∧ i < j ∧ j ≤ n ∧ GR u0 w j o)) := by
  simp only [F_X0_placed, B_X0_placed_0]
  refine g_next hb h hi (fun _ w h1 => ?_)
  refine gbt (γ := Unit) (g_kind hb h1 (by omega)) (fun _ w2 h2 => ?_)
  obtain ⟨k1, l1, h2⟩ := h2
  refine gbt (γ := Unit) (g_take hb h2 (by omega) (nEnd (by decide) (by decide) (by decide))) (fun _ w3 h3 => ?_)
  obtain ⟨k2, l2, h3⟩ := h3
  refine gbt (γ := Unit) (g_take hb h3 (by omega) (nEnd (by decide) (by decide) (by decide))) (fun _ w4 h4 => ?_)
  obtain ⟨k3, l3, h4⟩ := h4
  refine gbt (γ := Unit) (g_take hb h4 (by omega) (nEnd (by decide) (by decide) (by decide))) (fun _ w5 h5 => ?_)
  obtain ⟨k4, l4, h5⟩ := h5
  refine gbt (γ := Unit) (g_take hb h5 (by omega) (nEnd (by decide) (by decide) (by decide))) (fun _ w6 h6 => ?_)
  obtain ⟨k5, l5, h6⟩ := h6
  exact gend ⟨i + 6, ⟨k1, k2, k3, k4, k5, rfl⟩, by omega, by omega, h6⟩
end Gram2
