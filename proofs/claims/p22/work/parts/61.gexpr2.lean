/-! The group of expressions, by levels (25 less what stands open). -/
/-- a list of E's behind the first, and the ) -/
def gAl (u0 : CSt) (X : Nat → Nat → Prop) : Nat → Nat → Nat → Prop
  | 0, i, j => ¬ tyF u0 i = 44 ∧ tyF u0 i = 41 ∧ j = i + 1
  | c + 1, i, j => tyF u0 i = 44 ∧ ∃ k, X (i + 1) k ∧ gAl u0 X c k j
def gArgs (u0 : CSt) (X : Nat → Nat → Prop) (i j : Nat) : Prop := tyF u0 i = 40 ∧ (tyF u0 (i + 1) = 41 ∧ j = i + 2 ∨ ¬ tyF u0 (i + 1) = 41 ∧ ∃ k c, X (i + 1) k ∧ gAl u0 X c k j)
def gIdx (u0 : CSt) (X : Nat → Nat → Prop) (i j : Nat) : Prop := ¬ tyF u0 i = 91 ∧ j = i ∨ tyF u0 i = 91 ∧ ∃ k, X (i + 1) k ∧ tyF u0 k = 93 ∧ j = k + 1
def gNop (u0 : CSt) (X : Nat → Nat → Prop) (i j : Nat) : Prop := tyF u0 (i + 1) = 40 ∧ gArgs u0 X (i + 1) j ∨ ¬ tyF u0 (i + 1) = 40 ∧ (tyF u0 (i + 1) = 46 ∧ tyF u0 (i + 2) = 128 ∧ gIdx u0 X (i + 3) j ∨ ¬ (tyF u0 (i + 1) = 46 ∧ tyF u0 (i + 2) = 128) ∧ ∃ k, gIdx u0 X (i + 1) k ∧ gBit u0 k j)
def gBr (u0 : CSt) (X O : Nat → Nat → Prop) (i j : Nat) : Prop := tyF u0 i = 40 ∧ (gK u0 (i + 1) ∧ tyF u0 (i + 2) = 41 ∧ O (i + 3) j ∨ ¬ gK u0 (i + 1) ∧ ∃ k, X (i + 1) k ∧ tyF u0 k = 41 ∧ j = k + 1)
def gOpd (u0 : CSt) (X O : Nat → Nat → Prop) (i j : Nat) : Prop :=
  ((tyF u0 i = 45 ∨ tyF u0 i = 126 ∨ tyF u0 i = 33) ∧ O (i + 1) j) ∨ (tyF u0 i = 40 ∧ gBr u0 X O i j) ∨ (tyF u0 i = 128 ∧ gNop u0 X i j) ∨ ((tyF u0 i = 29 ∨ tyF u0 i = 129 ∨ tyF u0 i = 130) ∧ j = i + 1)
/-- is it an operator -/
def isOp (t : Int32) : Prop := ∃ s, F_X9_strength 0 t = some s ∧ ¬ s ≤ 0
/-- operators with their operands, then what may stand behind a ? -/
def gOps (u0 : CSt) (X O : Nat → Nat → Prop) : Nat → Nat → Nat → Prop
  | 0, i, j => ¬ isOp (tyF u0 i) ∧ (¬ tyF u0 i = 63 ∧ j = i ∨ tyF u0 i = 63 ∧ ∃ k, X (i + 1) k ∧ tyF u0 k = 58 ∧ X (k + 1) j)
  | c + 1, i, j => isOp (tyF u0 i) ∧ ∃ k, O (i + 1) k ∧ gOps u0 X O c k j
/-- E (first) and Operand (second) at a level -/
def gEO (u0 : CSt) : Nat → (Nat → Nat → Prop) × (Nat → Nat → Prop)
  | 0 => (fun _ _ => False, fun _ _ => False)
  | L + 1 => (fun i j => ∃ k c, gOpd u0 (gEO u0 L).1 (gEO u0 L).2 i k ∧ gOps u0 (gEO u0 L).1 (gOpd u0 (gEO u0 L).1 (gEO u0 L).2) c k j, gOpd u0 (gEO u0 L).1 (gEO u0 L).2)
def gX (u0 : CSt) (L : Nat) : Nat → Nat → Prop := (gEO u0 L).1
def gO (u0 : CSt) (L : Nat) : Nat → Nat → Prop := (gEO u0 L).2
section GExpr2
variable {N n i o d L : Nat} {u0 u : CSt} {ro : Nat → Nat → Int32 → Int32 → CSt → Option (Sum Nat Int32 × CSt)} {X O : Nat → Nat → Prop}
theorem g_strength (t : Int32) : ∃ s, F_X9_strength N t = some s ∧ F_X9_strength 0 t = some s := by
  obtain ⟨s, hs, -⟩ := v_X9_strength (N := N + 5000000000) (by omega) (l0 := t)
  exact ⟨s, hs, hs⟩
theorem isOp.ne {t : Int32} (h : isOp t) : ¬ isEnd t := by
  obtain ⟨s, hs, h0⟩ := h
  rintro (q | q | q)
  · subst q
    have : F_X9_strength 0 0 = some 0 := by decide
    rw [this] at hs; cases hs; exact h0 (by decide)
  · subst q
    have : F_X9_strength 0 131 = some 0 := by decide
    rw [this] at hs; cases hs; exact h0 (by decide)
  · subst q
    have : F_X9_strength 0 132 = some 0 := by decide
    rw [this] at hs; cases hs; exact h0 (by decide)
theorem g_index (hb : TB u0 n) (ho : o ≤ 24) (hX : o < 24 → ∀ (i : Nat) (u : CSt), GR u0 u i (o + 1) → i ≤ n → wq (ro 0 0 0 0 u) (GP u0 n (o + 1) X i)) (h : GR u0 u i o) (hi : i ≤ n) : wq (F_X0_index N ro u) (GQ u0 n o (gIdx u0 X) i) := by
  simp only [F_X0_index, B_X0_index_0]
  refine gis hb h hi (fun c => ?_) (fun c => ?_)
  · refine gop hb h hi (nEnd (by decide) (by decide) (by decide)) ho (fun _ w t1 ho2 l1 h1 => ?_)
    refine gsp (hX ho2 _ w h1 (by omega)) (fun _ w2 k x1 x2 x3 h2 => ?_)
    exact gcl hb h2 x3 (nEnd (by decide) (by decide) (by decide)) (fun _ w3 t2 l2 h3 => gend ⟨k + 1, Or.inr ⟨c, k, x1, t2, rfl⟩, by omega, by omega, h3⟩)
  · exact gend ⟨i, Or.inl ⟨c, rfl⟩, by omega, hi, h⟩
theorem g_arguments (hb : TB u0 n) (hN : 2000 ≤ N) (ho : o ≤ 24) (hX : o < 24 → ∀ (i : Nat) (u : CSt), GR u0 u i (o + 1) → i ≤ n → wq (ro 0 0 0 0 u) (GP u0 n (o + 1) X i)) (h : GR u0 u i o) (hi : i ≤ n) : wq (F_X0_arguments N ro u) (GP u0 n o (gArgs u0 X) i) := by
  simp only [F_X0_arguments, B_X0_arguments_0]
  refine gop hb h hi (nEnd (by decide) (by decide) (by decide)) ho (fun _ w t1 ho2 l1 h1 => ?_)
  have tail : ∀ (k : Nat) (w : CSt), GR u0 w k (o + 1) → k ≤ n → wq (B_X0_arguments_22 N ro w) (GS u0 (fun w => ∃ c j, gAl u0 X c k j ∧ k ≤ j ∧ j ≤ n ∧ GR u0 w j o)) := by
    intro k w hw hk
    unfold B_X0_arguments_22
    refine g_list (P := gAl u0 X) hb hN ?_ hw hk
    intro R l v k hk hkn h15 _ ih
    show wq (B_X0_arguments_24 N ro R l v) _
    unfold B_X0_arguments_24
    have fin : ¬ tyF u0 k = 44 → wq (B_X0_arguments_60 N ro v) (GS u0 (fun w => ∃ c j, gAl u0 X c k j ∧ k ≤ j ∧ j ≤ n ∧ GR u0 w j o)) := by
      intro c
      unfold B_X0_arguments_60
      exact gcl hb hk hkn (nEnd (by decide) (by decide) (by decide)) (fun _ w t3 l3 h4 => gend ⟨0, k + 1, ⟨c, t3, rfl⟩, by omega, by omega, h4⟩)
    refine wq_if.mpr ⟨fun c => ?_, fun c => ?_⟩
    · have hkn2 := h15 c
      exact fin (fun q => nEnd (t := 44) (by decide) (by decide) (by decide) (by rw [← q, hkn2]; exact hb.2.2))
    · refine gis hb hk hkn (fun c2 => ?_) fin
      refine gnx hb hk hkn (by rw [c2]; exact nEnd (by decide) (by decide) (by decide)) (fun _ w l3 h4 => ?_)
      refine gsp (hX ho2 _ w h4 (by omega)) (fun _ w2 m x1 x2 x3 h5 => ?_)
      exact gcons (by omega) (fun c j' q => ⟨c + 1, c2, m, x1, q⟩) (ih m w2 (by omega) x3 h5)
  refine gis hb h1 (by omega) (fun c => ?_) (fun c => ?_)
  · refine wq_mono (tail (i + 1) w h1 (by omega)) (fun y w hy => ?_)
    rcases hy with hy | ⟨r, e, c3, j, g1, g2, g3, g4⟩
    · exact Or.inl hy
    · cases c3 with
      | zero => exact Or.inr ⟨r, e, j, ⟨t1, Or.inl ⟨c, g1.2.2⟩⟩, by omega, g3, g4⟩
      | succ c3 => exact absurd (c.symm.trans g1.1) (by decide)
  · refine gsp (hX ho2 _ w h1 (by omega)) (fun _ w2 k x1 x2 x3 h2 => ?_)
    refine wq_mono (tail k w2 h2 x3) (fun y w hy => ?_)
    rcases hy with hy | ⟨r, e, c3, j, g1, g2, g3, g4⟩
    · exact Or.inl hy
    · exact Or.inr ⟨r, e, j, ⟨t1, Or.inr ⟨c, k, c3, x1, g1⟩⟩, by omega, g3, g4⟩
theorem g_namedOperand (hb : TB u0 n) (h4 : ∀ (i : Nat) (u : CSt), GR u0 u i o → i ≤ n → wq (ro 4 0 0 0 u) (GP u0 n o (gArgs u0 X) i)) (h5 : ∀ (i : Nat) (u : CSt), GR u0 u i o → i ≤ n → wq (ro 5 0 0 0 u) (GQ u0 n o (gIdx u0 X) i)) (h : GR u0 u i o) (hi : i ≤ n) (ht : tyF u0 i = 128) : wq (F_X0_namedOperand N ro u) (GP u0 n o (gNop u0 X) i) := by
  simp only [F_X0_namedOperand, B_X0_namedOperand_0]
  refine gnx hb h hi (by rw [ht]; exact nEnd (by decide) (by decide) (by decide)) (fun _ w l1 h1 => ?_)
  refine gis hb h1 (by omega) (fun c => ?_) (fun c => ?_)
  · exact gsp (h4 _ w h1 (by omega)) (fun _ w2 k x1 x2 x3 h2 => gend ⟨k, Or.inl ⟨c, x1⟩, by omega, x3, h2⟩)
  · have tail : ¬ (tyF u0 (i + 1) = 46 ∧ tyF u0 (i + 2) = 128) → wq (B_X0_namedOperand_73 N ro w) (GP u0 n o (gNop u0 X) i) := by
      intro c2
      unfold B_X0_namedOperand_73
      refine gsq (h5 _ w h1 (by omega)) (fun _ w2 k x1 x2 x3 h2 => ?_)
      refine gsq (X := gBit u0) (g_bit hb h2 x3) (fun _ w3 m y1 y2 y3 h3 => ?_)
      exact gend ⟨m, Or.inr ⟨c, Or.inr ⟨c2, k, x1, y1⟩⟩, by omega, y3, h3⟩
    refine gis hb h1 (by omega) (fun c2 => ?_) (fun c2 => tail (fun q => c2 q.1))
    have l2 : i + 1 < n := GR.lt hb (by omega) (by rw [c2]; exact nEnd (by decide) (by decide) (by decide))
    have e1 : (cI w 5 + 1).toInt = (i : Int) + 2 := by
      have q1 := h1.2.1
      have q2 := hb.2.1
      rw [tI_add (by rw [one_toInt]; omega) (by rw [one_toInt]; omega), one_toInt]; omega
    have e4 : (cI w 4).toInt = n := by
      have q1 : cI w 4 = cI u0 4 := h1.1.2 4 (by decide) (by decide) (by decide) (by decide)
      rw [q1]; exact hb.1
    have e5 : cA w 203 (cI w 5 + 1).toNatClampNeg = tyF u0 (i + 2) := by
      have q1 : cA w 203 = cA u0 203 := by show w.2.2.1 203 = u0.2.2.1 203; rw [h1.1.1]
      have q2 : (cI w 5 + 1).toNatClampNeg = i + 2 := by show (cI w 5 + 1).toInt.toNat = i + 2; omega
      rw [q1, q2]; rfl
    have hb1 := hb.2.1
    rw [wq_bc, q_typeAhead (fun _ => vin_iff.mpr ⟨by omega, by omega⟩)]
    refine ⟨fun q => ?_, fun _ => ?_⟩
    · have q1 := Int32.lt_iff_toInt_lt.mp q
      omega
    · rw [e5]
      refine wq_if.mpr ⟨fun c3 => ?_, fun c3 => tail (fun q => c3 q.2)⟩
      refine gnx hb h1 (by omega) (by rw [c2]; exact nEnd (by decide) (by decide) (by decide)) (fun _ w2 l3 h2 => ?_)
      refine gnx hb h2 (by omega) (by rw [c3]; exact nEnd (by decide) (by decide) (by decide)) (fun _ w3 l4 h3 => ?_)
      refine gsq (h5 _ w3 h3 (by omega)) (fun _ w4 k x1 x2 x3 h6 => ?_)
      exact gend ⟨k, Or.inr ⟨c, Or.inl ⟨c2, c3, x1⟩⟩, by omega, x3, h6⟩
theorem g_bracket (hb : TB u0 n) (ho : o ≤ 24) (hX : o < 24 → ∀ (i : Nat) (u : CSt), GR u0 u i (o + 1) → i ≤ n → wq (ro 0 0 0 0 u) (GP u0 n (o + 1) X i)) (hO : o < 24 → ∀ (i : Nat) (u : CSt), GR u0 u i (o + 1) → i ≤ n → wq (ro 1 0 0 0 u) (GP u0 n (o + 1) O i)) (h : GR u0 u i o) (hi : i ≤ n) : wq (F_X0_bracket N ro u) (GP u0 n o (gBr u0 X O) i) := by
  simp only [F_X0_bracket, B_X0_bracket_0]
  refine gop hb h hi (nEnd (by decide) (by decide) (by decide)) ho (fun _ w t1 ho2 l1 h1 => ?_)
  rw [wq_bc, q_isKindWord (h1.tk hb (by omega)), h1.ty]
  have no : ¬ gK u0 (i + 1) → wq (if (0 : Int32) = 0 then bt (ro 0 0 0 0 w) fun _ u_6 => bt (F_X0_closes N 41 u_6) fun _ u_8 => some (.inr 0, u_8) else bc (F_X9_next N w) fun _ u_10 => bt (F_X9_take N 41 u_10) fun _ u_11 => bt (ro 1 0 0 0 u_11) fun _ u_13 => pc (xI u_13 8 ((cI u_13 8) - 1)) fun u_15 => some (.inr 0, u_15)) (GP u0 n o (gBr u0 X O) i) := by
    intro c
    rw [if_pos rfl]
    refine gsp (hX ho2 _ w h1 (by omega)) (fun _ w2 k x1 x2 x3 h2 => ?_)
    exact gcl hb h2 x3 (nEnd (by decide) (by decide) (by decide)) (fun _ w3 t2 l2 h3 => gend ⟨k + 1, ⟨t1, Or.inr ⟨c, k, x1, t2, rfl⟩⟩, by omega, by omega, h3⟩)
  refine ⟨fun c => no (fun q => absurd c (Int32.not_lt.mpr q.1)), fun c => ⟨fun c2 => no (fun q => absurd c2 (Int32.not_lt.mpr q.2)), fun c2 => ?_⟩⟩
  rw [if_neg (by decide)]
  have hg : gK u0 (i + 1) := ⟨Int32.not_lt.mp c, Int32.not_lt.mp c2⟩
  have hn : ¬ isEnd (tyF u0 (i + 1)) := by rintro (q | q | q) <;> (rw [q] at c c2; revert c c2; decide)
  refine gnx hb h1 (by omega) hn (fun _ w2 l2 h2 => ?_)
  refine gtk hb h2 (by omega) (nEnd (by decide) (by decide) (by decide)) (fun _ w3 t2 l3 h3 => ?_)
  refine gsp (hO ho2 _ w3 h3 (by omega)) (fun _ w4 k x1 x2 x3 h4 => ?_)
  exact g_less h4 (fun w5 h5 => ⟨k, ⟨t1, Or.inl ⟨hg, t2, x1⟩⟩, by omega, x3, h5⟩)
theorem g_operand (hb : TB u0 n) (ho : o ≤ 24) (hO : o < 24 → ∀ (i : Nat) (u : CSt), GR u0 u i (o + 1) → i ≤ n → wq (ro 1 0 0 0 u) (GP u0 n (o + 1) O i)) (h2 : ∀ (i : Nat) (u : CSt), GR u0 u i o → i ≤ n → wq (ro 2 0 0 0 u) (GP u0 n o (gBr u0 X O) i)) (h3 : ∀ (i : Nat) (u : CSt), GR u0 u i o → i ≤ n → tyF u0 i = 128 → wq (ro 3 0 0 0 u) (GP u0 n o (gNop u0 X) i)) (h : GR u0 u i o) (hi : i ≤ n) : wq (F_X0_operand N ro u) (GP u0 n o (gOpd u0 X O) i) := by
  simp only [F_X0_operand, B_X0_operand_0]
  refine g_type hb h hi ?_
  have one : (tyF u0 i = 29 ∨ tyF u0 i = 129 ∨ tyF u0 i = 130) → wq (bc (F_X9_next N u) fun _ u_4 => some (.inr 0, u_4)) (GP u0 n o (gOpd u0 X O) i) := by
    intro c
    refine gnx hb h hi (by rcases c with c | c | c <;> (rw [c]; exact nEnd (by decide) (by decide) (by decide))) (fun _ w l1 h1 => ?_)
    exact gend ⟨i + 1, Or.inr (Or.inr (Or.inr ⟨c, rfl⟩)), by omega, by omega, h1⟩
  have sg : (tyF u0 i = 45 ∨ tyF u0 i = 126 ∨ tyF u0 i = 33) → wq (bc (F_X9_type N u) fun r_7 u_6 => bt (F_X0_opens N r_7 u_6) fun _ u_8 => bt (ro 1 0 0 0 u_8) fun _ u_10 => pc (xI u_10 8 ((cI u_10 8) - 1)) fun u_12 => some (.inr 0, u_12)) (GP u0 n o (gOpd u0 X O) i) := by
    intro c
    refine g_type hb h hi ?_
    refine gop hb h hi (by rcases c with c | c | c <;> (rw [c]; exact nEnd (by decide) (by decide) (by decide))) ho (fun _ w t1 ho2 l1 h1 => ?_)
    refine gsp (hO ho2 _ w h1 (by omega)) (fun _ w2 k x1 x2 x3 h2 => ?_)
    exact g_less h2 (fun w3 h3 => ⟨k, Or.inl ⟨c, x1⟩, by omega, x3, h3⟩)
  refine wq_if.mpr ⟨fun c => one (Or.inl c), fun _ => ?_⟩
  refine wq_if.mpr ⟨fun c => sg (Or.inr (Or.inr c)), fun _ => ?_⟩
  refine wq_if.mpr ⟨fun c => gsp (h2 i u h hi) (fun _ w k x1 x2 x3 h4 => gend ⟨k, Or.inr (Or.inl ⟨c, x1⟩), x2, x3, h4⟩), fun _ => ?_⟩
  refine wq_if.mpr ⟨fun c => sg (Or.inl c), fun _ => ?_⟩
  refine wq_if.mpr ⟨fun c => sg (Or.inr (Or.inl c)), fun _ => ?_⟩
  refine wq_if.mpr ⟨fun c => gsp (h3 i u h hi c) (fun _ w k x1 x2 x3 h4 => gend ⟨k, Or.inr (Or.inr (Or.inl ⟨c, x1⟩)), x2, x3, h4⟩), fun _ => ?_⟩
  refine wq_if.mpr ⟨fun c => one (Or.inr (Or.inl c)), fun _ => ?_⟩
  refine wq_if.mpr ⟨fun c => one (Or.inr (Or.inr c)), fun _ => ?_⟩
  exact grf hb h hi
theorem g_expression (hb : TB u0 n) (hN : 2000 ≤ N) (ho : o ≤ 24) (hX : o < 24 → ∀ (i : Nat) (u : CSt), GR u0 u i (o + 1) → i ≤ n → wq (ro 0 0 0 0 u) (GP u0 n (o + 1) X i)) (hO : ∀ (i : Nat) (u : CSt), GR u0 u i o → i ≤ n → wq (ro 1 0 0 0 u) (GP u0 n o O i)) (h : GR u0 u i o) (hi : i ≤ n) : wq (F_X0_expression N ro u) (GP u0 n o (fun i j => ∃ k c, O i k ∧ gOps u0 X O c k j) i) := by
  simp only [F_X0_expression, B_X0_expression_0]
  refine gsp (hO i u h hi) (fun _ w k x1 x2 x3 h1 => ?_)
  refine wq_mono (g_list (P := gOps u0 X O) (o2 := o) hb hN ?_ h1 x3) (fun y w hy => ?_)
  · intro R l v k hk hkn h15 _ ih
    show wq (B_X0_expression_6 N ro R l v) _
    unfold B_X0_expression_6
    have fin : ¬ isOp (tyF u0 k) → wq (B_X0_expression_43 N ro v) (GS u0 (fun w => ∃ c j, gOps u0 X O c k j ∧ k ≤ j ∧ j ≤ n ∧ GR u0 w j o)) := by
      intro c
      unfold B_X0_expression_43
      refine gis hb hk hkn (fun c2 => ?_) (fun c2 => gend ⟨0, k, ⟨c, Or.inl ⟨c2, rfl⟩⟩, by omega, hkn, hk⟩)
      refine gop hb hk hkn (nEnd (by decide) (by decide) (by decide)) ho (fun _ w t1 ho2 l1 h2 => ?_)
      refine gsp (hX ho2 _ w h2 (by omega)) (fun _ w2 m y1 y2 y3 h3 => ?_)
      refine gtk hb h3 y3 (nEnd (by decide) (by decide) (by decide)) (fun _ w3 t2 l2 h4 => ?_)
      refine gsp (hX ho2 _ w3 h4 (by omega)) (fun _ w4 m2 z1 z2 z3 h5 => ?_)
      exact g_less h5 (fun w5 h6 => ⟨0, m2, ⟨c, Or.inr ⟨c2, m, y1, t2, z1⟩⟩, by omega, z3, h6⟩)
    refine wq_if.mpr ⟨fun c => ?_, fun c => ?_⟩
    · have hkn2 := h15 c
      exact fin (fun q => q.ne (by rw [hkn2]; exact hb.2.2))
    · refine g_type hb hk hkn ?_
      obtain ⟨s, hs, hs0⟩ := g_strength (N := N) (tyF u0 k)
      refine wq_pb.mpr ⟨s, hs, ?_⟩
      refine wq_if.mpr ⟨fun c2 => fin (fun ⟨s2, e2, n2⟩ => n2 (by rw [hs0] at e2; cases e2; exact c2)), fun c2 => ?_⟩
      have hop : isOp (tyF u0 k) := ⟨s, hs0, c2⟩
      refine gnx hb hk hkn hop.ne (fun _ w l3 h4 => ?_)
      refine gsp (hO _ w h4 (by omega)) (fun _ w2 m x1 x2 x3 h5 => ?_)
      exact gcons (by omega) (fun c j' q => ⟨c + 1, hop, m, x1, q⟩) (ih m w2 (by omega) x3 h5)
  · rcases hy with hy | ⟨r, e, c, j, g1, g2, g3, g4⟩
    · exact Or.inl hy
    · exact Or.inr ⟨r, e, j, ⟨k, c, x1, g1⟩, by omega, g3, g4⟩
/-- all six, by levels -/
theorem g_EO (hb : TB u0 n) (hN : 2000 ≤ N) : ∀ (L o : Nat), o + L = 24 →
    (∀ (d i : Nat) (u : CSt), 6 * L + 6 ≤ d → GR u0 u i o → i ≤ n → wq (FGE_ N d 0 0 0 0 u) (GP u0 n o (gX u0 (L + 1)) i)) ∧
    (∀ (d i : Nat) (u : CSt), 6 * L + 5 ≤ d → GR u0 u i o → i ≤ n → wq (FGE_ N d 1 0 0 0 u) (GP u0 n o (gO u0 (L + 1)) i)) ∧
    (∀ (d i : Nat) (u : CSt), 6 * L + 3 ≤ d → GR u0 u i o → i ≤ n → wq (FGE_ N d 4 0 0 0 u) (GP u0 n o (gArgs u0 (gX u0 L)) i)) ∧
    (∀ (d i : Nat) (u : CSt), 6 * L + 3 ≤ d → GR u0 u i o → i ≤ n → wq (FGE_ N d 5 0 0 0 u) (GQ u0 n o (gIdx u0 (gX u0 L)) i)) := by
  intro L
  induction L with
  | zero =>
    intro o ho
    have ho2 : o ≤ 24 := by omega
    have hF : ∀ {P : Prop}, o < 24 → P := fun h => absurd h (by omega)
    have h4 : ∀ (d i : Nat) (u : CSt), 6 * 0 + 3 ≤ d → GR u0 u i o → i ≤ n → wq (FGE_ N d 4 0 0 0 u) (GP u0 n o (gArgs u0 (gX u0 0)) i) := by
      intro d i u hd h hi
      obtain ⟨d, rfl⟩ : ∃ e, d = e + 1 := ⟨d - 1, by omega⟩
      exact g_arguments hb hN ho2 (fun q => hF q) h hi
    have h5 : ∀ (d i : Nat) (u : CSt), 6 * 0 + 3 ≤ d → GR u0 u i o → i ≤ n → wq (FGE_ N d 5 0 0 0 u) (GQ u0 n o (gIdx u0 (gX u0 0)) i) := by
      intro d i u hd h hi
      obtain ⟨d, rfl⟩ : ∃ e, d = e + 1 := ⟨d - 1, by omega⟩
      exact g_index hb ho2 (fun q => hF q) h hi
    have h1 : ∀ (d i : Nat) (u : CSt), 6 * 0 + 5 ≤ d → GR u0 u i o → i ≤ n → wq (FGE_ N d 1 0 0 0 u) (GP u0 n o (gO u0 (0 + 1)) i) := by
      intro d i u hd h hi
      obtain ⟨d, rfl⟩ : ∃ e, d = e + 2 := ⟨d - 2, by omega⟩
      refine g_operand (ro := FGE_ N (d + 1)) (X := gX u0 0) (O := gO u0 0) hb ho2 (fun q => hF q) ?_ ?_ h hi
      · intro i u h hi
        exact g_bracket hb ho2 (fun q => hF q) (fun q => hF q) h hi
      · intro i u h hi ht
        exact g_namedOperand hb (fun i u h hi => h4 d i u (by omega) h hi) (fun i u h hi => h5 d i u (by omega) h hi) h hi ht
    refine ⟨?_, h1, h4, h5⟩
    intro d i u hd h hi
    obtain ⟨d, rfl⟩ : ∃ e, d = e + 1 := ⟨d - 1, by omega⟩
    exact g_expression (X := gX u0 0) (O := gO u0 (0 + 1)) hb hN ho2 (fun q => hF q) (fun i u h hi => h1 d i u (by omega) h hi) h hi
  | succ L ih =>
    intro o ho
    have ho2 : o ≤ 24 := by omega
    obtain ⟨i0, i1, -, -⟩ := ih (o + 1) (by omega)
    have h4 : ∀ (d i : Nat) (u : CSt), 6 * (L + 1) + 3 ≤ d → GR u0 u i o → i ≤ n → wq (FGE_ N d 4 0 0 0 u) (GP u0 n o (gArgs u0 (gX u0 (L + 1))) i) := by
      intro d i u hd h hi
      obtain ⟨d, rfl⟩ : ∃ e, d = e + 1 := ⟨d - 1, by omega⟩
      exact g_arguments hb hN ho2 (fun _ i u h hi => i0 d i u (by omega) h hi) h hi
    have h5 : ∀ (d i : Nat) (u : CSt), 6 * (L + 1) + 3 ≤ d → GR u0 u i o → i ≤ n → wq (FGE_ N d 5 0 0 0 u) (GQ u0 n o (gIdx u0 (gX u0 (L + 1))) i) := by
      intro d i u hd h hi
      obtain ⟨d, rfl⟩ : ∃ e, d = e + 1 := ⟨d - 1, by omega⟩
      exact g_index hb ho2 (fun _ i u h hi => i0 d i u (by omega) h hi) h hi
    have h1 : ∀ (d i : Nat) (u : CSt), 6 * (L + 1) + 5 ≤ d → GR u0 u i o → i ≤ n → wq (FGE_ N d 1 0 0 0 u) (GP u0 n o (gO u0 (L + 1 + 1)) i) := by
      intro d i u hd h hi
      obtain ⟨d, rfl⟩ : ∃ e, d = e + 2 := ⟨d - 2, by omega⟩
      refine g_operand (ro := FGE_ N (d + 1)) (X := gX u0 (L + 1)) (O := gO u0 (L + 1)) hb ho2 (fun _ i u h hi => i1 (d + 1) i u (by omega) h hi) ?_ ?_ h hi
      · intro i u h hi
        exact g_bracket hb ho2 (fun _ i u h hi => i0 d i u (by omega) h hi) (fun _ i u h hi => i1 d i u (by omega) h hi) h hi
      · intro i u h hi ht
        exact g_namedOperand hb (fun i u h hi => h4 d i u (by omega) h hi) (fun i u h hi => h5 d i u (by omega) h hi) h hi ht
    refine ⟨?_, h1, h4, h5⟩
    intro d i u hd h hi
    obtain ⟨d, rfl⟩ : ∃ e, d = e + 1 := ⟨d - 1, by omega⟩
    exact g_expression (X := gX u0 (L + 1)) (O := gO u0 (L + 1 + 1)) hb hN ho2 (fun _ i u h hi => i0 d i u (by omega) h hi) (fun i u h hi => h1 d i u (by omega) h hi) h hi
/-- an E, arguments, an index where o stands open -/
theorem g_E (hb : TB u0 n) (hN : 2000 ≤ N) (ho : o ≤ 24) (h : GR u0 u i o) (hi : i ≤ n) : wq (G_X0_expression N u) (GP u0 n o (gX u0 (25 - o)) i) := by
  have := (g_EO hb hN (24 - o) o (by omega)).1 200 i u (by omega) h hi
  rw [show 24 - o + 1 = 25 - o by omega] at this
  exact this
theorem g_A (hb : TB u0 n) (hN : 2000 ≤ N) (ho : o ≤ 24) (h : GR u0 u i o) (hi : i ≤ n) : wq (G_X0_arguments N u) (GP u0 n o (gArgs u0 (gX u0 (24 - o))) i) :=
  (g_EO hb hN (24 - o) o (by omega)).2.2.1 200 i u (by omega) h hi
theorem g_I (hb : TB u0 n) (hN : 2000 ≤ N) (ho : o ≤ 24) (h : GR u0 u i o) (hi : i ≤ n) : wq (G_X0_index N u) (GQ u0 n o (gIdx u0 (gX u0 (24 - o))) i) :=
  (g_EO hb hN (24 - o) o (by omega)).2.2.2 200 i u (by omega) h hi
end GExpr2
