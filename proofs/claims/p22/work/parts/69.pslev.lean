/-! Statements by levels. -/
section PSLev
variable {N n i j d L : Nat} {u0 u : CSt} {E X B B' S : Nat → Nat → Prop}
theorem gSl.lt (hS : ∀ a b, S a b → a < b) : ∀ {c i j : Nat}, gSl u0 S c i j → i < j := by
  intro c
  induction c with
  | zero => intro i j h; have := h.2; omega
  | succ c ih => intro i j h; obtain ⟨-, k, h1, h2⟩ := h; have := hS _ _ h1; have := ih h2; omega
theorem gBody.lt (hS : ∀ a b, S a b → a < b) (h : gBody u0 S i j) : i < j := by
  obtain ⟨-, c, h⟩ := h
  have := gSl.lt hS h
  omega
theorem gEl.le (hE : ∀ a b, E a b → a < b) (hB : ∀ a b, B a b → a < b) : ∀ {c i j : Nat}, gEl u0 E B c i j → i ≤ j := by
  intro c
  induction c with
  | zero =>
    intro i j h
    obtain ⟨-, ⟨-, h⟩ | ⟨-, h⟩⟩ := h
    · omega
    · have := hB _ _ h; omega
  | succ c ih => intro i j h; obtain ⟨-, k, m, h1, h2, h3⟩ := h; have := hE _ _ h1; have := hB _ _ h2; have := ih h3; omega
theorem gLabel.lt (h : gLabel u0 i j) : i < j := by
  obtain ⟨k, h1, ⟨-, h2⟩ | ⟨-, h2⟩⟩ := h
  · have := h1.lt; omega
  · have := h1.lt; have := h2.lt; omega
theorem gLl.le : ∀ {c i j : Nat}, gLl u0 c i j → i ≤ j := by
  intro c
  induction c with
  | zero => intro i j h; have := h.2; omega
  | succ c ih => intro i j h; obtain ⟨-, k, h1, h2⟩ := h; have := h1.lt; have := ih h2; omega
theorem gCl.le (hB : ∀ a b, B a b → a < b) : ∀ {c i j : Nat}, gCl u0 B c i j → i ≤ j := by
  intro c
  induction c with
  | zero =>
    intro i j h
    obtain ⟨-, k, ⟨-, h⟩ | ⟨-, h⟩, -, h2⟩ := h
    · omega
    · have := hB _ _ h; omega
  | succ c ih => intro i j h; obtain ⟨-, k, c2, m, p, h1, h2, h3, h4⟩ := h; have := h1.lt; have := h2.le; have := hB _ _ h3; have := ih h4; omega
theorem gStat.lt (hE : ∀ a b, E a b → a < b) (hX : ∀ a b, X a b → a < b) (hB : ∀ a b, B a b → a < b) (hB' : ∀ a b, B' a b → a < b) (h : gStat u0 E X B B' i j) : i < j ∧ ¬ isEnd (tyF u0 i) := by
  rcases h with ⟨t, k, m, c, h1, h2, h3⟩ | ⟨t, k, h1, h2⟩ | ⟨t, -, -, k, m, h1, -, h2, h3⟩ | ⟨t, k, c, h1, -, h2⟩ | ⟨t, -, h⟩ | ⟨t, ⟨-, h⟩ | ⟨-, k, h1, -, h⟩⟩ | ⟨t, k, h1, -, h⟩ | ⟨t, ⟨-, k, h1, -, h⟩ | ⟨-, k, m, h1, h2, ⟨-, p, h3, -, h⟩ | ⟨-, -, -, h⟩⟩⟩
  · have := hE _ _ h1; have := hB _ _ h2; have := gEl.le hE hB h3
    exact ⟨by omega, nE t (by decide) (by decide) (by decide)⟩
  · have := hE _ _ h1; have := hB _ _ h2
    exact ⟨by omega, nE t (by decide) (by decide) (by decide)⟩
  · have := hE _ _ h1; have := hE _ _ h2; have := hB _ _ h3
    exact ⟨by omega, nE t (by decide) (by decide) (by decide)⟩
  · have := hE _ _ h1; have := gCl.le hB' h2
    exact ⟨by omega, nE t (by decide) (by decide) (by decide)⟩
  · exact ⟨by omega, by rcases t with t | t <;> exact nE t (by decide) (by decide) (by decide)⟩
  · exact ⟨by omega, nE t (by decide) (by decide) (by decide)⟩
  · have := hE _ _ h1
    exact ⟨by omega, nE t (by decide) (by decide) (by decide)⟩
  · have := hE _ _ h1
    exact ⟨by omega, nE t (by decide) (by decide) (by decide)⟩
  · have := gArgs.lt hX h1
    exact ⟨by omega, nE t (by decide) (by decide) (by decide)⟩
  · have := gIdx.le hX h1; have := h2.le; have := hE _ _ h3
    exact ⟨by omega, nE t (by decide) (by decide) (by decide)⟩
  · have := gIdx.le hX h1; have := h2.le
    exact ⟨by omega, nE t (by decide) (by decide) (by decide)⟩
theorem gSB.lt : ∀ (L : Nat), (∀ a b, gS u0 L a b → a < b ∧ ¬ isEnd (tyF u0 a)) ∧ (∀ a b, gB u0 L a b → a < b ∧ tyF u0 a = 123) := by
  intro L
  induction L with
  | zero => exact ⟨fun _ _ h => h.elim, fun _ _ h => h.elim⟩
  | succ L ih =>
    have hB : ∀ a b, gB u0 (L + 1) a b → a < b ∧ tyF u0 a = 123 := fun a b h => ⟨gBody.lt (S := gS u0 L) (fun a b q => (ih.1 a b q).1) h, h.1⟩
    exact ⟨fun a b h => gStat.lt (gEO.lt (L + 1)).1 (gEO.lt L).1 (fun a b q => (hB a b q).1) (fun a b q => (ih.2 a b q).1) h, hB⟩
theorem p_SB (hb : TB u0 n) (hN : 5000000000 ≤ N) : ∀ (L : Nat), L ≤ 25 →
    (∀ (d i j : Nat) (u : CSt), 5 * L ≤ d → PR u0 n u i → gS u0 L i j → wq (FMS_ N d 2 0 0 0 u) (PJ u0 n j)) ∧
    (∀ (d i j : Nat) (u : CSt), 5 * L ≤ d + 3 → PR u0 n u i → gB u0 L i j → wq (FMS_ N d 0 0 0 0 u) (PJ u0 n j)) ∧
    (∀ (d i j c : Nat) (u : CSt), 5 * L + 1 ≤ d → PR u0 n u i → gSl u0 (gS u0 L) c i j → wq (FMS_ N d 1 0 0 0 u) (PJ u0 n j)) := by
  intro L
  induction L with
  | zero =>
    intro _
    refine ⟨fun _ _ _ _ _ _ h => h.elim, fun _ _ _ _ _ _ h => h.elim, ?_⟩
    intro d i j c u hd h hD
    obtain ⟨d, rfl⟩ : ∃ e, d = e + 1 := ⟨d - 1, by omega⟩
    exact p_statements hb hN (fun a b q => ((gSB.lt 0).1 a b q).1) (fun _ _ _ _ q => q.elim) h hD (fun a b q => ((gSB.lt 0).1 a b q).2)
  | succ L ih =>
    intro hL
    obtain ⟨i2, i0, i1⟩ := ih (by omega)
    have h0 : ∀ (d i j : Nat) (u : CSt), 5 * (L + 1) ≤ d + 3 → PR u0 n u i → gB u0 (L + 1) i j → wq (FMS_ N d 0 0 0 0 u) (PJ u0 n j) := by
      intro d i j u hd h hD
      obtain ⟨d, rfl⟩ : ∃ e, d = e + 1 := ⟨d - 1, by omega⟩
      exact p_body (S := gS u0 L) hb (fun i j c u h q => i1 d i j c u (by omega) h q) h hD
    have h5 : ∀ (d i j : Nat) (a : Int32) (u : CSt), 5 * (L + 1) ≤ d + 2 → PR u0 n u i → gB u0 (L + 1) i j → wq (FMS_ N d 5 0 a 0 u) (PJ u0 n j) := by
      intro d i j a u hd h hD
      obtain ⟨d, rfl⟩ : ∃ e, d = e + 1 := ⟨d - 1, by omega⟩
      exact p_round hN (fun u h => h0 d i j u (by omega) h hD) h
    have h2 : ∀ (d i j : Nat) (u : CSt), 5 * (L + 1) ≤ d → PR u0 n u i → gS u0 (L + 1) i j → wq (FMS_ N d 2 0 0 0 u) (PJ u0 n j) := by
      intro d i j u hd h hD
      obtain ⟨d, rfl⟩ : ∃ e, d = e + 2 := ⟨d - 2, by omega⟩
      refine p_statement (ro := FMS_ N (d + 1)) (B := gB u0 (L + 1)) (B' := gB u0 L) hb hN (by omega : L ≤ 24) ?_ ?_ ?_ ?_ h hD
      · intro a w h t q
        exact p_choice hb hN hL (fun a b q => ((gSB.lt (L + 1)).2 a b q).1) (fun i j u h q => h0 d i j u (by omega) h q) h t q
      · intro a w k h t q1 q2
        exact p_loop hb hN hL (fun a u h => h5 d k j a u (by omega) h q2) h t q1
      · intro a w h t q
        obtain ⟨t1, t2, k, m, q1, t3, q2, q3⟩ := q
        exact p_counted hb hN hL (fun a u h => h5 d m j a u (by omega) h q3) h t t1 t2 q1 t3 q2
      · intro a w h t q
        exact p_cases hb hN hL (fun a b q => (gSB.lt L).2 a b q) (fun i j u h q => i0 d i j u (by omega) h q) h t q
    refine ⟨h2, h0, ?_⟩
    intro d i j c u hd h hD
    obtain ⟨d, rfl⟩ : ∃ e, d = e + 1 := ⟨d - 1, by omega⟩
    exact p_statements hb hN (fun a b q => ((gSB.lt (L + 1)).1 a b q).1) (fun i j u h q => h2 d i j u (by omega) h q) h hD (fun a b q => ((gSB.lt (L + 1)).1 a b q).2)
theorem p_S0 (hb : TB u0 n) (hN : 5000000000 ≤ N) (h : PR u0 n u i) {c : Nat} (hD : gSl u0 (gS u0 24) c i j) : wq (G_X3_statements N u) (PJ u0 n j) :=
  (p_SB hb hN 24 (by omega)).2.2 150 i j c u (by omega) h hD
end PSLev
