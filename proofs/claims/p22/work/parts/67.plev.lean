/-! Terms by levels. -/
section PLev
variable {N n i j d L : Nat} {u0 u : CSt} {X O : Nat → Nat → Prop}
theorem gAl.lt (hX : ∀ a b, X a b → a < b) : ∀ {c i j : Nat}, gAl u0 X c i j → i < j := by
  intro c
  induction c with
  | zero => intro i j h; have := h.2.2; omega
  | succ c ih => intro i j h; obtain ⟨-, k, h1, h2⟩ := h; have := hX _ _ h1; have := ih h2; omega
theorem gArgs.lt (hX : ∀ a b, X a b → a < b) (h : gArgs u0 X i j) : i < j := by
  obtain ⟨-, h | ⟨-, k, c, h1, h2⟩⟩ := h
  · omega
  · have := hX _ _ h1; have := gAl.lt hX h2; omega
theorem gIdx.le (hX : ∀ a b, X a b → a < b) (h : gIdx u0 X i j) : i ≤ j := by
  obtain ⟨-, h⟩ | ⟨-, k, h1, -, h2⟩ := h
  · omega
  · have := hX _ _ h1; omega
theorem gBit.le (h : gBit u0 i j) : i ≤ j := by
  obtain ⟨-, h⟩ | ⟨-, -, h⟩ := h <;> omega
theorem gOpd.lt (hX : ∀ a b, X a b → a < b) (hO : ∀ a b, O a b → a < b) (h : gOpd u0 X O i j) : i < j := by
  rcases h with ⟨-, h⟩ | ⟨-, -, ⟨-, -, h⟩ | ⟨-, k, h1, -, h2⟩⟩ | ⟨-, ⟨-, h⟩ | ⟨-, ⟨-, -, h⟩ | ⟨-, k, h1, h2⟩⟩⟩ | ⟨-, h⟩
  · have := hO _ _ h; omega
  · have := hO _ _ h; omega
  · have := hX _ _ h1; omega
  · have := gArgs.lt hX h; omega
  · have := gIdx.le hX h; omega
  · have := gIdx.le hX h1; have := h2.le; omega
  · omega
theorem gOps.le (hX : ∀ a b, X a b → a < b) (hO : ∀ a b, O a b → a < b) : ∀ {c i j : Nat}, gOps u0 X O c i j → i ≤ j := by
  intro c
  induction c with
  | zero =>
    intro i j h
    obtain ⟨-, ⟨-, h⟩ | ⟨-, k, h1, -, h2⟩⟩ := h
    · omega
    · have := hX _ _ h1; have := hX _ _ h2; omega
  | succ c ih => intro i j h; obtain ⟨-, k, h1, h2⟩ := h; have := hO _ _ h1; have := ih h2; omega
theorem gEO.lt : ∀ (L : Nat), (∀ a b, gX u0 L a b → a < b) ∧ (∀ a b, gO u0 L a b → a < b) := by
  intro L
  induction L with
  | zero => exact ⟨fun _ _ h => h.elim, fun _ _ h => h.elim⟩
  | succ L ih =>
    have hO : ∀ a b, gO u0 (L + 1) a b → a < b := fun a b h => gOpd.lt ih.1 ih.2 h
    refine ⟨fun a b h => ?_, hO⟩
    obtain ⟨k, c, h1, h2⟩ := h
    have := hO _ _ h1
    have := gOps.le ih.1 hO h2
    omega
/-- what each of the group does at level L + 1, by its depth -/
theorem p_EO (hb : TB u0 n) (hN : 5000000000 ≤ N) : ∀ (L : Nat),
    (∀ (d i j : Nat) (u : CSt), 8 * L ≤ d → PR u0 n u i → gX u0 L i j → wq (FTE_ N d 0 0 0 0 u) (PJ u0 n j)) ∧
    (∀ (d i j : Nat) (u : CSt), 8 * L ≤ d + 2 → PR u0 n u i → gO u0 L i j → wq (FTE_ N d 2 0 0 0 u) (PJ u0 n j)) := by
  intro L
  induction L with
  | zero => exact ⟨fun _ _ _ _ _ _ h => h.elim, fun _ _ _ _ _ _ h => h.elim⟩
  | succ L ih =>
    obtain ⟨i0, i2⟩ := ih
    have hX : ∀ a b, gX u0 L a b → a < b := (gEO.lt L).1
    have h12 : ∀ (d i k : Nat) (w : CSt), 8 * L + 1 ≤ d → PR u0 n w i → tyF u0 i = 91 → gX u0 L (i + 1) k → tyF u0 k = 93 → wq (FTE_ N d 12 0 0 0 w) (PJ u0 n (k + 1)) := by
      intro d i k w hd h t1 hk t2
      obtain ⟨d, rfl⟩ : ∃ e, d = e + 1 := ⟨d - 1, by omega⟩
      exact p_indexNumber (X := gX u0 L) hb hN (fun i j u h hD => i0 d i j u (by omega) h hD) h t1 hk t2
    have h11 : ∀ (d l : Nat) (a : Int32) (i k : Nat) (w : CSt), 8 * L + 2 ≤ d → PR u0 n w i → tyF u0 i = 91 → gX u0 L (i + 1) k → tyF u0 k = 93 → wq (FTE_ N d 11 l a 0 w) (PJ u0 n (k + 1)) := by
      intro d l a i k w hd h t1 hk t2
      obtain ⟨d, rfl⟩ : ∃ e, d = e + 1 := ⟨d - 1, by omega⟩
      exact p_index hN (h12 d i k w (by omega) h t1 hk t2)
    have h10 : ∀ (d l : Nat) (a b : Int32) (i j : Nat) (w : CSt), 8 * L + 1 ≤ d → PR u0 n w i → ¬ isEnd (tyF u0 i) → gArgs u0 (gX u0 L) (i + 1) j → wq (FTE_ N d 10 l a b w) (PJ u0 n j) := by
      intro d l a b i j w hd h t1 hk
      obtain ⟨d, rfl⟩ : ∃ e, d = e + 1 := ⟨d - 1, by omega⟩
      exact p_arguments hb hN hX (fun i j u h hD => i0 d i j u (by omega) h hD) h t1 hk
    have h9 : ∀ (d l : Nat) (a : Int32) (i j : Nat) (w : CSt), 8 * L + 1 ≤ d → PR u0 n w i → ¬ isEnd (tyF u0 i) → gArgs u0 (gX u0 L) (i + 1) j → wq (FTE_ N d 9 l a 0 w) (PJ u0 n j) := by
      intro d l a i j w hd h t1 hk
      obtain ⟨d, rfl⟩ : ∃ e, d = e + 1 := ⟨d - 1, by omega⟩
      exact p_builtIn hb hN hX (fun i j u h hD => i0 d i j u (by omega) h hD) h t1 hk
    have h8 : ∀ (d : Nat) (a : Int32) (i j : Nat) (w : CSt), 8 * L + 2 ≤ d → PR u0 n w i → ¬ isEnd (tyF u0 i) → gArgs u0 (gX u0 L) (i + 1) j → wq (FTE_ N d 8 0 a 0 w) (PJ u0 n j) := by
      intro d a i j w hd h t1 hk
      obtain ⟨d, rfl⟩ : ∃ e, d = e + 1 := ⟨d - 1, by omega⟩
      exact p_called hN (fun l a w h => h9 d l a i j w (by omega) h t1 hk) (fun l a b w h => h10 d l a b i j w (by omega) h t1 hk) h
    have h5 : ∀ (d : Nat) (a : Int32) (i j : Nat) (w : CSt), 8 * L + 4 ≤ d → PR u0 n w i → tyF u0 i = 128 → gNop u0 (gX u0 L) i j → wq (FTE_ N d 5 0 a 0 w) (PJ u0 n j) := by
      intro d a i j w hd h t1 hk
      obtain ⟨d, rfl⟩ : ∃ e, d = e + 2 := ⟨d - 2, by omega⟩
      have hn := nE t1 (by decide) (by decide) (by decide)
      exact p_named (ro := FTE_ N (d + 1)) hb (fun a m w h q1 q2 => p_ofPlace hb hN (fun l a i k w h t1 hk t2 => h11 d l a i k w (by omega) h t1 hk t2) h t1 q1 q2) (fun a w h q1 q2 q3 => p_ofInstance hb hN (fun i k w h t1 hk t2 => h12 d i k w (by omega) h t1 hk t2) h t1 q1 q2 q3) (fun a w h q => h8 (d + 1) a i j w (by omega) h hn q) h t1 hk
    have h2 : ∀ (d i j : Nat) (u : CSt), 8 * (L + 1) ≤ d + 2 → PR u0 n u i → gO u0 (L + 1) i j → wq (FTE_ N d 2 0 0 0 u) (PJ u0 n j) := by
      intro d i j w hd h hk
      obtain ⟨d, rfl⟩ : ∃ e, d = e + 2 := ⟨d - 2, by omega⟩
      exact p_operand (ro := FTE_ N (d + 1)) (X := gX u0 L) (O := gO u0 L) hb hN (fun a w h q1 q2 => p_signed (O := gO u0 L) hb hN (fun i j u h hD => i2 d i j u (by omega) h hD) h q2 q1) (fun a w h q => p_bracket (X := gX u0 L) (O := gO u0 L) hb hN (fun i j u h hD => i0 d i j u (by omega) h hD) (fun i j u h hD => i2 d i j u (by omega) h hD) h q) (fun a w h q1 q2 => h5 (d + 1) a i j w (by omega) h q1 q2) h hk
    refine ⟨?_, h2⟩
    intro d i j u hd h hk
    obtain ⟨d, rfl⟩ : ∃ e, d = e + 2 := ⟨d - 2, by omega⟩
    exact p_expression (ro := FTE_ N (d + 1)) (X := gX u0 L) (O := gO u0 (L + 1)) hb hN (fun i j u h hD => i0 (d + 1) i j u (by omega) h hD) (fun i j k c u h q1 q2 => p_operators (O := gO u0 (L + 1)) hb hN (gEO.lt (L + 1)).2 (fun i j u h hD => h2 d i j u (by omega) h hD) h q1 q2) h hk
theorem p_E (hb : TB u0 n) (hN : 5000000000 ≤ N) (hL : L ≤ 25) (h : PR u0 n u i) (hD : gX u0 L i j) : wq (G_X8_expression N u) (PJ u0 n j) :=
  (p_EO hb hN L).1 300 i j u (by omega) h hD
theorem p_I (hb : TB u0 n) (hN : 5000000000 ≤ N) (hL : L ≤ 25) {l : Nat} {a : Int32} (h : PR u0 n u i) (t1 : tyF u0 i = 91) {k : Nat} (hk : gX u0 L (i + 1) k) (t2 : tyF u0 k = 93) : wq (G_X8_index N l a u) (PJ u0 n (k + 1)) :=
  p_index (ro := FTE_ N 299) hN (p_indexNumber (ro := FTE_ N 298) (X := gX u0 L) hb hN (fun i j u h hD => (p_EO hb hN L).1 298 i j u (by omega) h hD) h t1 hk t2)
theorem p_A (hb : TB u0 n) (hN : 5000000000 ≤ N) (hL : L ≤ 25) {l : Nat} {a b : Int32} (h : PR u0 n u i) (t1 : ¬ isEnd (tyF u0 i)) (hk : gArgs u0 (gX u0 L) (i + 1) j) : wq (G_X8_arguments N l a b u) (PJ u0 n j) :=
  p_arguments (ro := FTE_ N 299) hb hN (gEO.lt L).1 (fun i j u h hD => (p_EO hb hN L).1 299 i j u (by omega) h hD) h t1 hk
end PLev
