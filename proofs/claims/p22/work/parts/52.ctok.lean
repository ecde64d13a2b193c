/-! Tokens: what each small program does, as one condition. -/
def TK (u : CSt) : Prop := 0 ≤ (cI u 5).toInt ∧ (cI u 5).toInt ≤ (cI u 4).toInt ∧ (cI u 4).toInt ≤ 1500
theorem TK.inn {u : CSt} (h : TK u) : vp_in (cI u 5) 1501 := by
  obtain ⟨h1, h2, h3⟩ := h
  exact vin_iff.mpr ⟨h1, by omega⟩
/-- the type of the token here -/
def tyH (u : CSt) : Int32 := cA u 203 (cI u 5).toNatClampNeg
section CTok
variable {N : Nat} {u : CSt} {Q : Int32 → CSt → Prop} {QT : Sum Nat Int32 → CSt → Prop}
theorem q_type (h : TK u) : wq (F_X9_type N u) Q ↔ Q (tyH u) u := by
  simp only [F_X9_type, B_X9_type_0, wq_rd, wq_some, h.inn, true_and, tyH]
theorem q_is {t : Int32} (h : TK u) : wq (F_X9_is N t u) Q ↔ (tyH u = t → Q 1 u) ∧ (¬ tyH u = t → Q 0 u) := by
  simp only [F_X9_is, B_X9_is_0, wq_rd, wq_some, wq_if, h.inn, true_and, tyH]
theorem q_next : wq (F_X9_next N u) Q ↔ (cI u 4 ≤ cI u 5 → Q 0 u) ∧ (¬ cI u 4 ≤ cI u 5 → Q 0 (xI u 5 (cI u 5 + 1))) := by
  simp only [F_X9_next, B_X9_next_0, wq_some, wq_if, wq_pc]
theorem q_here (h : TK u) : wq (F_X9_here N u) Q ↔ Q (cA u 204 (cI u 5).toNatClampNeg) u := by
  simp only [F_X9_here, B_X9_here_0, wq_rd, wq_some, h.inn, true_and]
theorem q_tail (h : TK u) : wq (F_X9_tail N u) Q ↔ Q (cA u 206 (cI u 5).toNatClampNeg) u := by
  simp only [F_X9_tail, B_X9_tail_0, wq_rd, wq_some, h.inn, true_and]
theorem q_head {Q : Int64 → CSt → Prop} (h : TK u) : wq (F_X9_head N u) Q ↔ Q (cB u 205 (cI u 5).toNatClampNeg) u := by
  simp only [F_X9_head, B_X9_head_0, wq_rd, wq_some, h.inn, true_and]
theorem q_isWide (h : TK u) : wq (F_X9_isWide N u) Q ↔ (cA u 206 (cI u 5).toNatClampNeg &&& 1 = 0 → Q 0 u) ∧ (¬ cA u 206 (cI u 5).toNatClampNeg &&& 1 = 0 → Q 1 u) := by
  simp only [F_X9_isWide, B_X9_isWide_0, wq_rd, wq_some, wq_if, h.inn, true_and]
theorem q_isKindWord (h : TK u) : wq (F_X9_isKindWord N u) Q ↔ (tyH u < 12 → Q 0 u) ∧ (¬ tyH u < 12 → (16 < tyH u → Q 0 u) ∧ (¬ 16 < tyH u → Q 1 u)) := by
  simp only [F_X9_isKindWord, B_X9_isKindWord_0, wq_rd, wq_some, wq_if, h.inn, true_and, tyH]
theorem q_misfit (h : TK u) : wq (F_X9_misfit N u) Q ↔ (tyH u = 131 → Q 1 u) ∧ (¬ tyH u = 131 → Q 2 u) := by
  simp only [F_X9_misfit, B_X9_misfit_0, wq_rd, wq_some, wq_if, h.inn, true_and, tyH]
theorem q_rewind : wq (F_X9_rewind N u) Q ↔ Q 0 (xI u 5 0) := by
  simp only [F_X9_rewind, B_X9_rewind_0, wq_some, wq_pc]
theorem q_refuse {a b : Int32} : wq (F_X9_refuse N a b u) QT ↔ QT (.inl 0) (xI (xI u 6 a) 7 b) := by
  simp only [F_X9_refuse, B_X9_refuse_0, wq_some, wq_pc]
theorem q_typeAhead {a : Int32} (h : ¬ cI u 4 < cI u 5 + a → vp_in (cI u 5 + a) 1501) : wq (F_X9_typeAhead N a u) Q ↔ (cI u 4 < cI u 5 + a → Q 0 u) ∧ (¬ cI u 4 < cI u 5 + a → Q (cA u 203 (cI u 5 + a).toNatClampNeg) u) := by
  simp only [F_X9_typeAhead, B_X9_typeAhead_0, wq_rd, wq_some, wq_if]
  exact ⟨fun x => ⟨x.1, fun c => (x.2 c).2⟩, fun x => ⟨x.1, fun c => ⟨h c, x.2 c⟩⟩⟩
theorem q_refuseToken (h : TK u) : wq (F_X9_refuseToken N u) QT ↔ (tyH u = 131 → QT (.inl 0) (xI (xI u 6 1) 7 (cA u 204 (cI u 5).toNatClampNeg))) ∧ (¬ tyH u = 131 → QT (.inl 0) (xI (xI u 6 2) 7 (cA u 204 (cI u 5).toNatClampNeg))) := by
  simp only [F_X9_refuseToken, B_X9_refuseToken_0, wq_bc, q_misfit h, wq_rd, wq_bt, q_refuse, h.inn, true_and, reduceCtorEq, false_implies, implies_true, and_true, Sum.inl.injEq, forall_eq']
theorem TK.step (h : TK u) (hn : ¬ cI u 4 ≤ cI u 5) : TK (xI u 5 (cI u 5 + 1)) ∧ ((xI u 5 (cI u 5 + 1)).1 5).toInt = (cI u 5).toInt + 1 := by
  obtain ⟨h1, h2, h3⟩ := h
  have h4 : (cI u 5).toInt < (cI u 4).toInt := Int32.lt_iff_toInt_lt.mp (Int32.not_le.mp hn)
  have h5 : (cI u 5 + 1).toInt = (cI u 5).toInt + 1 := by
    have : (1 : Int32).toInt = 1 := by decide
    rw [tI_add (by omega) (by omega), this]
  refine ⟨⟨?_, ?_, ?_⟩, ?_⟩
  · show 0 ≤ (cI u 5 + 1).toInt; omega
  · show (cI u 5 + 1).toInt ≤ (cI u 4).toInt; omega
  · exact h3
  · exact h5
end CTok
