/-! Expressions of the reference: every rule, by the brackets that stand open. -/
section RLev
variable {T N : Nat}
theorem fe_0 {d : Nat} {a b : Int32} {v : RSt} : FE_ N (d + 1) 0 a b v = F_expression N (FE_ N d) v := rfl
theorem fe_1 {d : Nat} {a b : Int32} {v : RSt} : FE_ N (d + 1) 1 a b v = F_two N (FE_ N d) a v := rfl
theorem fe_2 {d : Nat} {a b : Int32} {v : RSt} : FE_ N (d + 1) 2 a b v = F_operand N (FE_ N d) v := rfl
theorem fe_3 {d : Nat} {a b : Int32} {v : RSt} : FE_ N (d + 1) 3 a b v = F_signed N (FE_ N d) a v := rfl
theorem fe_4 {d : Nat} {a b : Int32} {v : RSt} : FE_ N (d + 1) 4 a b v = F_cast N (FE_ N d) v := rfl
theorem fe_5 {d : Nat} {a b : Int32} {v : RSt} : FE_ N (d + 1) 5 a b v = F_call N (FE_ N d) v := rfl
theorem fe_6 {d : Nat} {a b : Int32} {v : RSt} : FE_ N (d + 1) 6 a b v = F_inner N (FE_ N d) v := rfl
theorem fe_7 {d : Nat} {a b : Int32} {v : RSt} : FE_ N (d + 1) 7 a b v = F_index N (FE_ N d) a b v := rfl
theorem fe_8 {d : Nat} {a b : Int32} {v : RSt} : FE_ N (d + 1) 8 a b v = F_spot N (FE_ N d) a v := rfl
/-- operand, two, expression out of an operand -/
theorem l_up {L : Nat} {o : Int} (hN : 5000000000 ≤ N) (h0 : 0 ≤ o) (hO : ∀ d, 15 * L + 1 ≤ d → HXr (FE_ N d) T 2 0 o (20 * L + 8)) (hX : o ≤ 24 → ∀ d, 15 * L ≤ d + 2 → HXr (FE_ N d) T 0 0 (o + 1) (20 * L)) : (∀ (k : Nat) (a : Int32), a.toInt + k = 11 → 1 ≤ a.toInt → ∀ d, 15 * L + 2 + k ≤ d → HXr (FE_ N d) T 1 a o (20 * L + 8 + k)) ∧ (∀ d, 15 * L + 13 ≤ d → HXr (FE_ N d) T 0 0 o (20 * L + 20)) := by
  have e1 : (1 : Int32).toInt = 1 := by decide
  have two : ∀ (k : Nat) (a : Int32), a.toInt + k = 11 → 1 ≤ a.toInt → ∀ d, 15 * L + 2 + k ≤ d → HXr (FE_ N d) T 1 a o (20 * L + 8 + k) := by
    intro k
    induction k using Nat.strongRecOn with
    | ind k ih =>
      intro a ha h1 d hd v hv ho
      obtain ⟨d', rfl⟩ : ∃ d', d = d' + 1 := ⟨d - 1, by omega⟩
      rw [fe_1]
      refine e_two hN hv ho h1 (hO d' (by omega)) (by omega) (by omega) (fun _ s q1 q2 => ?_)
      have es : (s + 1).toInt = s.toInt + 1 := by rw [tI_add (by omega) (by omega), e1]
      obtain ⟨j, hj⟩ : ∃ j : Nat, (s + 1).toInt + j = 11 := ⟨(11 - (s + 1).toInt).toNat, by omega⟩
      exact ⟨20 * L + 8 + j, ih j (by omega) (s + 1) hj (by omega) d' (by omega), by omega, by omega⟩
  refine ⟨two, fun d hd v hv ho => ?_⟩
  obtain ⟨d', rfl⟩ : ∃ d', d = d' + 1 := ⟨d - 1, by omega⟩
  rw [fe_0]
  exact e_expression hv ho h0 (two 10 1 (by rw [e1]; rfl) (by rw [e1]; decide) d' (by omega)) (by omega) (fun h => hX h d' (by omega)) (by omega)
/-- the rules with o brackets open, out of those with o + 1 -/
theorem l_down {L : Nat} {o : Int} (hN : 5000000000 ≤ N) (h0 : 0 ≤ o) (hX : ∀ d, 15 * L + 13 ≤ d → HXr (FE_ N d) T 0 0 (o + 1) (20 * L + 20)) (hO : ∀ d, 15 * L + 1 ≤ d → HXr (FE_ N d) T 2 0 (o + 1) (20 * L + 8)) : (∀ d, 15 * L + 14 ≤ d → HIr (FE_ N d) T o (20 * L + 20)) ∧ (∀ d, 15 * L + 15 ≤ d → (∀ a, HPr (FE_ N d) T a o (20 * L + 28)) ∧ HNr (FE_ N d) T o (20 * L + 28) ∧ HSr (FE_ N d) T 5 0 o (20 * L + 28)) ∧ (∀ d, 15 * L + 16 ≤ d → HXr (FE_ N d) T 2 0 o (20 * L + 28)) := by
  have ix : ∀ d, 15 * L + 14 ≤ d → HIr (FE_ N d) T o (20 * L + 20) := by
    intro d hd a b v ha hv ho
    obtain ⟨d', rfl⟩ : ∃ d', d = d' + 1 := ⟨d - 1, by omega⟩
    rw [fe_7]
    exact e_index hv ho h0 ha (hX d' (by omega)) (Nat.le_refl _) (by omega)
  have mid : ∀ d, 15 * L + 15 ≤ d → (∀ a, HPr (FE_ N d) T a o (20 * L + 28)) ∧ HNr (FE_ N d) T o (20 * L + 28) ∧ HSr (FE_ N d) T 5 0 o (20 * L + 28) := by
    intro d hd
    obtain ⟨d', rfl⟩ : ∃ d', d = d' + 1 := ⟨d - 1, by omega⟩
    refine ⟨fun a v hv ho ht => ?_, fun v hv ho hk => ?_, fun v hv ho ht => ?_⟩
    · rw [fe_8]
      exact e_spot hN hv ho h0 ht (ix d' (by omega)) (by omega) (by omega)
    · rw [fe_6]
      exact e_inner hN hv ho h0 hk (ix d' (by omega)) (by omega) (by omega)
    · rw [fe_5]
      exact e_call hN hv ho h0 ht (hX d' (by omega)) (by omega)
  refine ⟨ix, mid, fun d hd v hv ho => ?_⟩
  obtain ⟨d', rfl⟩ : ∃ d', d = d' + 1 := ⟨d - 1, by omega⟩
  rw [fe_2]
  obtain ⟨m1, m2, m3⟩ := mid d' (by omega)
  obtain ⟨d2, rfl⟩ : ∃ d2, d' = d2 + 1 := ⟨d' - 1, by omega⟩
  refine e_operand hv ho (by omega) (fun a v hv ho ht => ?_) (fun v hv ho ht => ?_) m3 m2 (m1 0) (hX (d2 + 1) (by omega)) (by omega)
  · rw [fe_3]
    exact e_signed hv ho h0 ht (hO d2 (by omega)) (by omega) (by omega)
  · rw [fe_4]
    exact e_cast hv ho h0 ht (hO d2 (by omega)) (by omega) (by omega)
theorem l_all (hN : 5000000000 ≤ N) : ∀ (L : Nat) (o : Int), 0 ≤ o → o + L = 25 → (∀ d, 15 * L + 1 ≤ d → HXr (FE_ N d) T 2 0 o (20 * L + 8)) ∧ (∀ d, 15 * L + 13 ≤ d → HXr (FE_ N d) T 0 0 o (20 * L + 20)) ∧ (o ≤ 24 → ∀ d, 15 * L ≤ d → (∀ a, HPr (FE_ N d) T a o (20 * L + 8)) ∧ HNr (FE_ N d) T o (20 * L + 8) ∧ HSr (FE_ N d) T 5 0 o (20 * L + 8)) := by
  intro L
  induction L with
  | zero =>
    intro o h0 hL
    have hO : ∀ d, 15 * 0 + 1 ≤ d → HXr (FE_ N d) T 2 0 o (20 * 0 + 8) := by
      intro d hd v hv ho
      obtain ⟨d', rfl⟩ : ∃ d', d = d' + 1 := ⟨d - 1, by omega⟩
      rw [fe_2]
      have hf : ¬ v.1 67 = 0 := fun z => by have := (ho z).2.2; omega
      unfold F_operand B_operand_0
      rw [if_neg hf]
      exact wp_some.mpr ⟨LF.rf.ef, LSm.rf, Int.le_refl _, hv.1.2.2.2, fun z => absurd z hf⟩
    exact ⟨hO, (l_up hN h0 hO (fun q => by omega)).2, fun q => by omega⟩
  | succ L ih =>
    intro o h0 hL
    obtain ⟨i1, i2, -⟩ := ih (o + 1) (by omega) (by omega)
    obtain ⟨a1, a2, a3⟩ := l_down hN h0 i2 i1
    have eg : 20 * (L + 1) + 8 = 20 * L + 28 := by omega
    have hO : ∀ d, 15 * (L + 1) + 1 ≤ d → HXr (FE_ N d) T 2 0 o (20 * (L + 1) + 8) := fun d hd => by rw [eg]; exact a3 d (by omega)
    refine ⟨hO, (l_up hN h0 hO (fun _ d hd => ?_)).2, fun _ d hd => by rw [eg]; exact a2 d (by omega)⟩
    exact i2 d (by omega)
/-- an expression, told by the whole machine -/
theorem x_expression {o : Int} (hN : 5000000000 ≤ N) {v : RSt} (h0 : 0 ≤ o) (h25 : o ≤ 25) (hv : PRE v T) (ho : v.1 67 = 0 → opn v = o ∧ 0 ≤ o ∧ o ≤ 24) : wp (G_expression N v) (fun _ w => CSq v w T o 0 520 [] [nT] true) := by
  obtain ⟨-, a, -⟩ := l_all (T := T) hN (25 - o).toNat o h0 (by omega)
  unfold G_expression
  exact wp_mono (a 400 (by omega) v hv ho) (fun _ w hw => hw.we (Int.le_refl _) (by omega))
theorem x_spot {a : Int32} {o : Int} (hN : 5000000000 ≤ N) {v : RSt} (h0 : 0 ≤ o) (h24 : o ≤ 24) (hv : PRE v T) (ho : v.1 67 = 0 → opn v = o ∧ 0 ≤ o ∧ o ≤ 24) (ht : ¬ isT (tyR v)) : wp (G_spot N a v) (fun _ w => ∃ t, CSq v w T o (-2) 520 [] [t] (decide (a = 0)) ∧ (act w → RDb t (w.1 80) ∧ (¬ a = 0 → WRb t (w.1 80)))) := by
  obtain ⟨-, -, q⟩ := l_all (T := T) hN (25 - o).toNat o h0 (by omega)
  unfold G_spot
  refine wp_mono ((q h24 400 (by omega)).1 a v hv ho ht) (fun _ w hw => ?_)
  obtain ⟨t, hw, hw2⟩ := hw
  exact ⟨t, hw.we (Int.le_refl _) (by omega), hw2⟩
theorem x_call {o : Int} (hN : 5000000000 ≤ N) {v : RSt} (h0 : 0 ≤ o) (h24 : o ≤ 24) (hv : PRE v T) (ho : v.1 67 = 0 → opn v = o ∧ 0 ≤ o ∧ o ≤ 24) (ht : ¬ isT (tyR v)) : wp (G_call N v) (fun _ w => CSq v w T o 0 520 [] [nT] true) := by
  obtain ⟨-, -, q⟩ := l_all (T := T) hN (25 - o).toNat o h0 (by omega)
  unfold G_call
  exact wp_mono ((q h24 400 (by omega)).2.2 v hv ho ht) (fun _ w hw => hw.we (Int.le_refl _) (by omega))
end RLev
