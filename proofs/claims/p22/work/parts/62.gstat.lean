/-! Statements and items: what the first pass goes through. -/
def isAsg (t : Int32) : Prop := t = 61 ∨ ∃ s, F_X9_assigned 0 t = some s ∧ ¬ s = -1
def gNamed (u0 : CSt) (E X : Nat → Nat → Prop) (i j : Nat) : Prop :=
  (tyF u0 (i + 1) = 40 ∧ ∃ k, gArgs u0 X (i + 1) k ∧ tyF u0 k = 59 ∧ j = k + 1) ∨
  (¬ tyF u0 (i + 1) = 40 ∧ ∃ k m, gIdx u0 X (i + 1) k ∧ gBit u0 k m ∧ ((isAsg (tyF u0 m) ∧ ∃ p, E (m + 1) p ∧ tyF u0 p = 59 ∧ j = p + 1) ∨ (¬ isAsg (tyF u0 m) ∧ (tyF u0 m = 11051 ∨ tyF u0 m = 11565) ∧ tyF u0 (m + 1) = 59 ∧ j = m + 2)))
def gRet (u0 : CSt) (E : Nat → Nat → Prop) (i j : Nat) : Prop := tyF u0 (i + 1) = 59 ∧ j = i + 2 ∨ ¬ tyF u0 (i + 1) = 59 ∧ ∃ k, E (i + 1) k ∧ tyF u0 k = 59 ∧ j = k + 1
def gSl (u0 : CSt) (S : Nat → Nat → Prop) : Nat → Nat → Nat → Prop
  | 0, i, j => tyF u0 i = 125 ∧ j = i + 1
  | c + 1, i, j => ¬ tyF u0 i = 125 ∧ ∃ k, S i k ∧ gSl u0 S c k j
def gBody (u0 : CSt) (S : Nat → Nat → Prop) (i j : Nat) : Prop := tyF u0 i = 123 ∧ ∃ c, gSl u0 S c (i + 1) j
def gEl (u0 : CSt) (E B : Nat → Nat → Prop) : Nat → Nat → Nat → Prop
  | 0, i, j => ¬ tyF u0 i = 18 ∧ (¬ tyF u0 i = 19 ∧ j = i ∨ tyF u0 i = 19 ∧ B (i + 1) j)
  | c + 1, i, j => tyF u0 i = 18 ∧ ∃ k m, E (i + 1) k ∧ B k m ∧ gEl u0 E B c m j
def gChoice (u0 : CSt) (E B : Nat → Nat → Prop) (i j : Nat) : Prop := ∃ k m c, E (i + 1) k ∧ B k m ∧ gEl u0 E B c m j
def gCounted (u0 : CSt) (E B : Nat → Nat → Prop) (i j : Nat) : Prop := tyF u0 (i + 1) = 128 ∧ tyF u0 (i + 2) = 61 ∧ ∃ k m, E (i + 3) k ∧ tyF u0 k = 11822 ∧ E (k + 1) m ∧ B m j
def gLl (u0 : CSt) : Nat → Nat → Nat → Prop
  | 0, i, j => ¬ tyF u0 i = 44 ∧ j = i
  | c + 1, i, j => tyF u0 i = 44 ∧ ∃ k, gLabel u0 (i + 1) k ∧ gLl u0 c k j
def gCl (u0 : CSt) (B : Nat → Nat → Prop) : Nat → Nat → Nat → Prop
  | 0, i, j => ¬ tyF u0 i = 23 ∧ ∃ k, (¬ tyF u0 i = 24 ∧ k = i ∨ tyF u0 i = 24 ∧ B (i + 1) k) ∧ tyF u0 k = 125 ∧ j = k + 1
  | c + 1, i, j => tyF u0 i = 23 ∧ ∃ k c2 m p, gLabel u0 (i + 1) k ∧ gLl u0 c2 k m ∧ B m p ∧ gCl u0 B c p j
def gCases (u0 : CSt) (E B : Nat → Nat → Prop) (i j : Nat) : Prop := ∃ k c, E (i + 1) k ∧ tyF u0 k = 123 ∧ gCl u0 B c (k + 1) j
def gStat (u0 : CSt) (E X B B' : Nat → Nat → Prop) (i j : Nat) : Prop :=
  (tyF u0 i = 17 ∧ gChoice u0 E B i j) ∨ (tyF u0 i = 20 ∧ ∃ k, E (i + 1) k ∧ B k j) ∨ (tyF u0 i = 21 ∧ gCounted u0 E B i j) ∨ (tyF u0 i = 22 ∧ gCases u0 E B' i j) ∨
  ((tyF u0 i = 25 ∨ tyF u0 i = 26) ∧ tyF u0 (i + 1) = 59 ∧ j = i + 2) ∨ (tyF u0 i = 27 ∧ gRet u0 E i j) ∨ (tyF u0 i = 28 ∧ ∃ k, E (i + 1) k ∧ tyF u0 k = 59 ∧ j = k + 1) ∨ (tyF u0 i = 128 ∧ gNamed u0 E X i j)
/-- statement (first) and body (second) at a level -/
def gSB (u0 : CSt) : Nat → (Nat → Nat → Prop) × (Nat → Nat → Prop)
  | 0 => (fun _ _ => False, fun _ _ => False)
  | L + 1 => (gStat u0 (gX u0 (L + 1)) (gX u0 L) (gBody u0 (gSB u0 L).1) (gSB u0 L).2, gBody u0 (gSB u0 L).1)
def gS (u0 : CSt) (L : Nat) : Nat → Nat → Prop := (gSB u0 L).1
def gB (u0 : CSt) (L : Nat) : Nat → Nat → Prop := (gSB u0 L).2
section GStat
variable {N n i o d L : Nat} {u0 u : CSt} {ro : Nat → Nat → Int32 → Int32 → CSt → Option (Sum Nat Int32 × CSt)} {E X B B' S : Nat → Nat → Prop}
theorem g_assigned (t : Int32) : ∃ s, F_X9_assigned N t = some s ∧ F_X9_assigned 0 t = some s := by
  obtain ⟨s, hs, -⟩ := v_X9_assigned (N := N + 5000000000) (by omega) (l0 := t)
  exact ⟨s, hs, hs⟩
theorem isAsg.ne {t : Int32} (h : isAsg t) : ¬ isEnd t := by
  rcases h with h | ⟨s, hs, h0⟩
  · rw [h]; exact nEnd (by decide) (by decide) (by decide)
  · rintro (q | q | q)
    · subst q
      have : F_X9_assigned 0 0 = some (-1) := by decide
      rw [this] at hs; cases hs; exact h0 rfl
    · subst q
      have : F_X9_assigned 0 131 = some (-1) := by decide
      rw [this] at hs; cases hs; exact h0 rfl
    · subst q
      have : F_X9_assigned 0 132 = some (-1) := by decide
      rw [this] at hs; cases hs; exact h0 rfl
theorem g_named (hb : TB u0 n) (hN : 2000 ≤ N) (ho : o ≤ 24) (h : GR u0 u i o) (hi : i ≤ n) (ht : tyF u0 i = 128) : wq (F_X0_named N u) (GP u0 n o (gNamed u0 (gX u0 (25 - o)) (gX u0 (24 - o))) i) := by
  simp only [F_X0_named, B_X0_named_0]
  refine gnx hb h hi (by rw [ht]; exact nEnd (by decide) (by decide) (by decide)) (fun _ w l1 h1 => ?_)
  refine gis hb h1 (by omega) (fun c => ?_) (fun c => ?_)
  · refine gsp (g_A hb hN ho h1 (by omega)) (fun _ w2 k x1 x2 x3 h2 => ?_)
    exact gtk hb h2 x3 (nEnd (by decide) (by decide) (by decide)) (fun _ w3 t2 l2 h3 => gend ⟨k + 1, Or.inl ⟨c, k, x1, t2, rfl⟩, by omega, by omega, h3⟩)
  · refine gsq (g_I hb hN ho h1 (by omega)) (fun _ w2 k x1 x2 x3 h2 => ?_)
    refine gsq (X := gBit u0) (g_bit hb h2 x3) (fun _ w3 m y1 y2 y3 h3 => ?_)
    refine g_type hb h3 y3 ?_
    have asg : isAsg (tyF u0 m) → wq (B_X0_named_63 N w3) (GP u0 n o (gNamed u0 (gX u0 (25 - o)) (gX u0 (24 - o))) i) := by
      intro c2
      unfold B_X0_named_63
      refine gnx hb h3 y3 c2.ne (fun _ w4 l2 h4 => ?_)
      refine gsp (g_E hb hN ho h4 (by omega)) (fun _ w5 p z1 z2 z3 h5 => ?_)
      unfold B_X0_named_108
      exact gtk hb h5 z3 (nEnd (by decide) (by decide) (by decide)) (fun _ w6 t3 l3 h6 => gend ⟨p + 1, Or.inr ⟨c, k, m, x1, y1, Or.inl ⟨c2, p, z1, t3, rfl⟩⟩, by omega, by omega, h6⟩)
    have inc : ¬ isAsg (tyF u0 m) → (tyF u0 m = 11051 ∨ tyF u0 m = 11565) → wq (B_X0_named_91 N w3) (GP u0 n o (gNamed u0 (gX u0 (25 - o)) (gX u0 (24 - o))) i) := by
      intro c2 c3
      unfold B_X0_named_91
      refine gnx hb h3 y3 (by rcases c3 with c3 | c3 <;> (rw [c3]; exact nEnd (by decide) (by decide) (by decide))) (fun _ w4 l2 h4 => ?_)
      unfold B_X0_named_108
      exact gtk hb h4 (by omega) (nEnd (by decide) (by decide) (by decide)) (fun _ w6 t3 l3 h6 => gend ⟨m + 2, Or.inr ⟨c, k, m, x1, y1, Or.inr ⟨c2, c3, t3, rfl⟩⟩, by omega, by omega, h6⟩)
    refine wq_if.mpr ⟨fun c2 => asg (Or.inl c2), fun c2 => ?_⟩
    obtain ⟨s, hs, hs0⟩ := g_assigned (N := N) (tyF u0 m)
    refine wq_pb.mpr ⟨s, hs, ?_⟩
    refine wq_if.mpr ⟨fun c3 => ?_, fun c3 => asg (Or.inr ⟨s, hs0, c3⟩)⟩
    have na : ¬ isAsg (tyF u0 m) := by
      rintro (q | ⟨s2, e2, n2⟩)
      · exact c2 q
      · rw [hs0] at e2; cases e2; exact n2 c3
    refine wq_if.mpr ⟨fun c4 => inc na (Or.inl c4), fun _ => ?_⟩
    refine wq_if.mpr ⟨fun c4 => inc na (Or.inr c4), fun _ => ?_⟩
    exact grf hb h3 y3
theorem g_returned (hb : TB u0 n) (hN : 2000 ≤ N) (ho : o ≤ 24) (h : GR u0 u i o) (hi : i ≤ n) (ht : tyF u0 i = 27) : wq (F_X0_returned N u) (GP u0 n o (gRet u0 (gX u0 (25 - o))) i) := by
  simp only [F_X0_returned, B_X0_returned_0]
  refine gnx hb h hi (by rw [ht]; exact nEnd (by decide) (by decide) (by decide)) (fun _ w l1 h1 => ?_)
  refine gis hb h1 (by omega) (fun c => ?_) (fun c => ?_)
  · unfold B_X0_returned_23
    exact gtk hb h1 (by omega) (nEnd (by decide) (by decide) (by decide)) (fun _ w3 t2 l2 h3 => gend ⟨i + 2, Or.inl ⟨c, rfl⟩, by omega, by omega, h3⟩)
  · refine gsp (g_E hb hN ho h1 (by omega)) (fun _ w2 k x1 x2 x3 h2 => ?_)
    unfold B_X0_returned_23
    exact gtk hb h2 x3 (nEnd (by decide) (by decide) (by decide)) (fun _ w3 t2 l2 h3 => gend ⟨k + 1, Or.inr ⟨c, k, x1, t2, rfl⟩, by omega, by omega, h3⟩)
theorem g_statements (hb : TB u0 n) (hN : 2000 ≤ N) (hS : ∀ (i : Nat) (u : CSt), GR u0 u i (o + 1) → i ≤ n → wq (ro 2 0 0 0 u) (GP u0 n (o + 1) S i)) (h : GR u0 u i (o + 1)) (hi : i ≤ n) : wq (F_X0_statements N ro u) (GQ u0 n o (fun i j => ∃ c, gSl u0 S c i j) i) := by
  simp only [F_X0_statements, B_X0_statements_0]
  refine wq_mono (g_list (P := gSl u0 S) (o2 := o) hb hN ?_ h hi) (fun y w hy => ?_)
  · intro R l v k hk hkn h15 _ ih
    show wq (B_X0_statements_2 N ro R l v) _
    unfold B_X0_statements_2
    have fin : wq (B_X0_statements_31 N ro v) (GS u0 (fun w => ∃ c j, gSl u0 S c k j ∧ k ≤ j ∧ j ≤ n ∧ GR u0 w j o)) := by
      unfold B_X0_statements_31
      exact gcl hb hk hkn (nEnd (by decide) (by decide) (by decide)) (fun _ w t3 l3 h4 => gend ⟨0, k + 1, ⟨t3, rfl⟩, by omega, by omega, h4⟩)
    refine wq_if.mpr ⟨fun c => fin, fun c => ?_⟩
    refine gis hb hk hkn (fun c2 => fin) (fun c2 => ?_)
    refine gsp (hS _ v hk hkn) (fun _ w2 m x1 x2 x3 h5 => ?_)
    exact gcons (by omega) (fun c j' q => ⟨c + 1, c2, m, x1, q⟩) (ih m w2 (by omega) x3 h5)
  · rcases hy with hy | ⟨r, e, c, j, g1, g2, g3, g4⟩
    · exact Or.inl hy
    · exact Or.inr ⟨r, e, j, ⟨c, g1⟩, by omega, g3, g4⟩
theorem g_body (hb : TB u0 n) (ho : o ≤ 24) (hS : o < 24 → ∀ (i : Nat) (u : CSt), GR u0 u i (o + 1) → i ≤ n → wq (ro 1 0 0 0 u) (GQ u0 n o (fun i j => ∃ c, gSl u0 S c i j) i)) (h : GR u0 u i o) (hi : i ≤ n) : wq (F_X0_body N ro u) (GP u0 n o (gBody u0 S) i) := by
  simp only [F_X0_body, B_X0_body_0]
  refine gop hb h hi (nEnd (by decide) (by decide) (by decide)) ho (fun _ w t1 ho2 l1 h1 => ?_)
  exact gsq (hS ho2 _ w h1 (by omega)) (fun _ w2 k x1 x2 x3 h2 => gend ⟨k, ⟨t1, x1⟩, by omega, x3, h2⟩)
theorem g_choice (hb : TB u0 n) (hN : 2000 ≤ N) (ho : o ≤ 24) (hB : ∀ (i : Nat) (u : CSt), GR u0 u i o → i ≤ n → wq (ro 0 0 0 0 u) (GP u0 n o B i)) (h : GR u0 u i o) (hi : i ≤ n) (ht : tyF u0 i = 17) : wq (F_X0_choice N ro u) (GP u0 n o (gChoice u0 (gX u0 (25 - o)) B) i) := by
  simp only [F_X0_choice, B_X0_choice_0]
  refine gnx hb h hi (by rw [ht]; exact nEnd (by decide) (by decide) (by decide)) (fun _ w l1 h1 => ?_)
  refine gsp (g_E hb hN ho h1 (by omega)) (fun _ w2 k x1 x2 x3 h2 => ?_)
  refine gsp (hB _ w2 h2 x3) (fun _ w3 m y1 y2 y3 h3 => ?_)
  refine wq_mono (g_list (P := gEl u0 (gX u0 (25 - o)) B) (o2 := o) hb hN ?_ h3 y3) (fun y w hy => ?_)
  · intro R l v k hk hkn h15 _ ih
    show wq (B_X0_choice_17 N ro R l v) _
    unfold B_X0_choice_17
    have fin : ¬ tyF u0 k = 18 → wq (B_X0_choice_57 N ro v) (GS u0 (fun w => ∃ c j, gEl u0 (gX u0 (25 - o)) B c k j ∧ k ≤ j ∧ j ≤ n ∧ GR u0 w j o)) := by
      intro c
      unfold B_X0_choice_57
      refine gis hb hk hkn (fun c2 => ?_) (fun c2 => gend ⟨0, k, ⟨c, Or.inl ⟨c2, rfl⟩⟩, by omega, hkn, hk⟩)
      refine gnx hb hk hkn (by rw [c2]; exact nEnd (by decide) (by decide) (by decide)) (fun _ w l2 h4 => ?_)
      exact gsp (hB _ w h4 (by omega)) (fun _ w2 m x1 x2 x3 h5 => gend ⟨0, m, ⟨c, Or.inr ⟨c2, x1⟩⟩, by omega, x3, h5⟩)
    refine wq_if.mpr ⟨fun c => ?_, fun c => ?_⟩
    · have hkn2 := h15 c
      exact fin (fun q => nEnd (t := 18) (by decide) (by decide) (by decide) (by rw [← q, hkn2]; exact hb.2.2))
    · refine gis hb hk hkn (fun c2 => ?_) fin
      refine gnx hb hk hkn (by rw [c2]; exact nEnd (by decide) (by decide) (by decide)) (fun _ w l2 h4 => ?_)
      refine gsp (g_E hb hN ho h4 (by omega)) (fun _ w2 m x1 x2 x3 h5 => ?_)
      refine gsp (hB _ w2 h5 x3) (fun _ w3 p y1 y2 y3 h6 => ?_)
      exact gcons (by omega) (fun c j' q => ⟨c + 1, c2, m, p, x1, y1, q⟩) (ih p w3 (by omega) y3 h6)
  · rcases hy with hy | ⟨r, e, c, j, g1, g2, g3, g4⟩
    · exact Or.inl hy
    · exact Or.inr ⟨r, e, j, ⟨k, m, c, x1, y1, g1⟩, by omega, g3, g4⟩
theorem g_counted (hb : TB u0 n) (hN : 2000 ≤ N) (ho : o ≤ 24) (hB : ∀ (i : Nat) (u : CSt), GR u0 u i o → i ≤ n → wq (ro 0 0 0 0 u) (GP u0 n o B i)) (h : GR u0 u i o) (hi : i ≤ n) (ht : tyF u0 i = 21) : wq (F_X0_counted N ro u) (GP u0 n o (gCounted u0 (gX u0 (25 - o)) B) i) := by
  simp only [F_X0_counted, B_X0_counted_0]
  refine gnx hb h hi (by rw [ht]; exact nEnd (by decide) (by decide) (by decide)) (fun _ w l1 h1 => ?_)
  refine gtk hb h1 (by omega) (nEnd (by decide) (by decide) (by decide)) (fun _ w2 t2 l2 h2 => ?_)
  refine gtk hb h2 (by omega) (nEnd (by decide) (by decide) (by decide)) (fun _ w3 t3 l3 h3 => ?_)
  refine gsp (g_E hb hN ho h3 (by omega)) (fun _ w4 k x1 x2 x3 h4 => ?_)
  refine gtk hb h4 x3 (nEnd (by decide) (by decide) (by decide)) (fun _ w5 t4 l4 h5 => ?_)
  refine gsp (g_E hb hN ho h5 (by omega)) (fun _ w6 m y1 y2 y3 h6 => ?_)
  exact gsp (hB _ w6 h6 y3) (fun _ w7 p z1 z2 z3 h7 => gend ⟨p, ⟨t2, t3, k, m, x1, t4, y1, z1⟩, by omega, z3, h7⟩)
theorem g_cases (hb : TB u0 n) (hN : 2000 ≤ N) (ho : o ≤ 24) (hB : o < 24 → ∀ (i : Nat) (u : CSt), GR u0 u i (o + 1) → i ≤ n → wq (ro 0 0 0 0 u) (GP u0 n (o + 1) B i)) (h : GR u0 u i o) (hi : i ≤ n) (ht : tyF u0 i = 22) : wq (F_X0_cases N ro u) (GP u0 n o (gCases u0 (gX u0 (25 - o)) B) i) := by
  simp only [F_X0_cases, B_X0_cases_0]
  refine gnx hb h hi (by rw [ht]; exact nEnd (by decide) (by decide) (by decide)) (fun _ w l1 h1 => ?_)
  refine gsp (g_E hb hN ho h1 (by omega)) (fun _ w2 k x1 x2 x3 h2 => ?_)
  refine gop hb h2 x3 (nEnd (by decide) (by decide) (by decide)) ho (fun _ w3 t1 ho2 l2 h3 => ?_)
  refine wq_mono (g_list (P := gCl u0 B) (o2 := o) hb hN ?_ h3 (by omega)) (fun y w hy => ?_)
  · intro R l v k hk hkn h15 _ ih
    show wq (B_X0_cases_19 N ro R l v) _
    unfold B_X0_cases_19
    have fin : ¬ tyF u0 k = 23 → wq (B_X0_cases_97 N ro v) (GS u0 (fun w => ∃ c j, gCl u0 B c k j ∧ k ≤ j ∧ j ≤ n ∧ GR u0 w j o)) := by
      intro c
      unfold B_X0_cases_97
      refine gis hb hk hkn (fun c2 => ?_) (fun c2 => ?_)
      · refine gnx hb hk hkn (by rw [c2]; exact nEnd (by decide) (by decide) (by decide)) (fun _ w l2 h4 => ?_)
        refine gsp (hB ho2 _ w h4 (by omega)) (fun _ w2 m x1 x2 x3 h5 => ?_)
        unfold B_X0_cases_120
        exact gcl hb h5 x3 (nEnd (by decide) (by decide) (by decide)) (fun _ w3 t2 l3 h6 => gend ⟨0, m + 1, ⟨c, m, Or.inr ⟨c2, x1⟩, t2, rfl⟩, by omega, by omega, h6⟩)
      · unfold B_X0_cases_120
        exact gcl hb hk hkn (nEnd (by decide) (by decide) (by decide)) (fun _ w3 t2 l3 h6 => gend ⟨0, k + 1, ⟨c, k, Or.inl ⟨c2, rfl⟩, t2, rfl⟩, by omega, by omega, h6⟩)
    refine wq_if.mpr ⟨fun c => ?_, fun c => ?_⟩
    · have hkn2 := h15 c
      exact fin (fun q => nEnd (t := 23) (by decide) (by decide) (by decide) (by rw [← q, hkn2]; exact hb.2.2))
    · refine gis hb hk hkn (fun c2 => ?_) fin
      refine gnx hb hk hkn (by rw [c2]; exact nEnd (by decide) (by decide) (by decide)) (fun _ w l2 h4 => ?_)
      refine gsp (X := gLabel u0) (g_label hb h4 (by omega)) (fun _ w2 m x1 x2 x3 h5 => ?_)
      -- the inner list, then the body and on
      have z0 : (0 : Int32).toInt = 0 := by decide
      have e15 : (1500 : Int32).toInt = 1500 := by decide
      have hb1 := hb.2.1
      have key : wq (LP_X0_cases_51 N ro R N (l, 0, w2)) (GS u0 (fun w => ∃ c2 q, gLl u0 c2 (posT w2) q ∧ ∃ p, B q p ∧ ∃ c j, gCl u0 B c p j ∧ m ≤ j ∧ j ≤ n ∧ GR u0 w j o)) := by
        unfold LP_X0_cases_51
        refine wq_lpF (Q := fun (a : Int32 × Int32 × CSt) => GS u0 (fun w => ∃ c2 q, gLl u0 c2 (posT a.2.2) q ∧ ∃ p, B q p ∧ ∃ c j, gCl u0 B c p j ∧ m ≤ j ∧ j ≤ n ∧ GR u0 w j o)) (fun (d : Nat) (a : Int32 × Int32 × CSt) => ∃ k2, GR u0 a.2.2 k2 (o + 1) ∧ m ≤ k2 ∧ k2 ≤ n ∧ d = n - k2 ∧ 0 ≤ a.2.1.toInt ∧ a.2.1.toInt ≤ (k2 : Int) ∧ a.1 = l) ?_ N (n - m) (l, 0, w2) (by omega) ⟨m, h5, Nat.le_refl _, x3, rfl, (show (0 : Int) ≤ (0 : Int32).toInt by omega), (show (0 : Int32).toInt ≤ (m : Int) by omega), rfl⟩
        rintro d R2 ⟨l', l2, v2⟩ ⟨k2, hk2, hmk, hk2n, hd, hl0, hlk, hll⟩ ih2
        dsimp only at hk2 hl0 hlk hll ⊢
        subst hll
        rw [hk2.pos]
        unfold B_X0_cases_51
        have fin2 : ¬ tyF u0 k2 = 44 → wq (B_X0_cases_87 N ro R l' v2) (GS u0 (fun w => ∃ c2 q, gLl u0 c2 k2 q ∧ ∃ p, B q p ∧ ∃ c j, gCl u0 B c p j ∧ m ≤ j ∧ j ≤ n ∧ GR u0 w j o)) := by
          intro c3
          unfold B_X0_cases_87
          refine gsp (hB ho2 _ v2 hk2 hk2n) (fun _ w3 p y1 y2 y3 h6 => ?_)
          refine wq_mono (ih p w3 (by omega) y3 h6) (fun y w hy => ?_)
          rcases hy with hy | ⟨r, e, c, j, g1, g2, g3, g4⟩
          · exact Or.inl hy
          · exact Or.inr ⟨r, e, 0, k2, ⟨c3, rfl⟩, p, y1, c, j, g1, by omega, g3, g4⟩
        refine wq_if.mpr ⟨fun c3 => ?_, fun c3 => ?_⟩
        · have c4 := Int32.le_iff_toInt_le.mp c3
          have hkn2 : k2 = n := by omega
          exact fin2 (fun q => nEnd (t := 44) (by decide) (by decide) (by decide) (by rw [← q, hkn2]; exact hb.2.2))
        · refine gis hb hk2 hk2n (fun c4 => ?_) fin2
          refine gnx hb hk2 hk2n (by rw [c4]; exact nEnd (by decide) (by decide) (by decide)) (fun _ w4 l4 h7 => ?_)
          refine gsp (X := gLabel u0) (g_label hb h7 (by omega)) (fun _ w5 m2 y1 y2 y3 h8 => ?_)
          have el : (l2 + 1).toInt = l2.toInt + 1 := by rw [tI_add (by rw [one_toInt]; omega) (by rw [one_toInt]; omega), one_toInt]
          have hr := ih2 (n - m2) (l', l2 + 1, w5) (by omega) ⟨m2, h8, by omega, y3, rfl, by show 0 ≤ (l2 + 1).toInt; omega, by show (l2 + 1).toInt ≤ _; omega, rfl⟩
          dsimp only at hr
          rw [h8.pos] at hr
          refine wq_mono hr (fun y w hy => ?_)
          rcases hy with hy | ⟨r, e, c5, q, g0, p, gp, c, j, g1, g2, g3, g4⟩
          · exact Or.inl hy
          · exact Or.inr ⟨r, e, c5 + 1, q, ⟨c4, m2, y1, g0⟩, p, gp, c, j, g1, g2, g3, g4⟩
      rw [h5.pos] at key
      refine wq_mono key (fun y w hy => ?_)
      rcases hy with hy | ⟨r, e, c5, q, g0, p, gp, c, j, g1, g2, g3, g4⟩
      · exact Or.inl hy
      · exact Or.inr ⟨r, e, c + 1, j, ⟨c2, m, c5, q, p, x1, g0, gp, g1⟩, by omega, g3, g4⟩
  · rcases hy with hy | ⟨r, e, c, j, g1, g2, g3, g4⟩
    · exact Or.inl hy
    · exact Or.inr ⟨r, e, j, ⟨k, c, x1, t1, g1⟩, by omega, g3, g4⟩
theorem g_statement (hb : TB u0 n) (hN : 2000 ≤ N) (ho : o ≤ 24) (hB : ∀ (i : Nat) (u : CSt), GR u0 u i o → i ≤ n → wq (ro 0 0 0 0 u) (GP u0 n o B i)) (h3 : ∀ (i : Nat) (u : CSt), GR u0 u i o → i ≤ n → tyF u0 i = 17 → wq (ro 3 0 0 0 u) (GP u0 n o (gChoice u0 (gX u0 (25 - o)) B) i)) (h4 : ∀ (i : Nat) (u : CSt), GR u0 u i o → i ≤ n → tyF u0 i = 21 → wq (ro 4 0 0 0 u) (GP u0 n o (gCounted u0 (gX u0 (25 - o)) B) i)) (h5 : ∀ (i : Nat) (u : CSt), GR u0 u i o → i ≤ n → tyF u0 i = 22 → wq (ro 5 0 0 0 u) (GP u0 n o (gCases u0 (gX u0 (25 - o)) B') i)) (h : GR u0 u i o) (hi : i ≤ n) : wq (F_X0_statement N ro u) (GP u0 n o (gStat u0 (gX u0 (25 - o)) (gX u0 (24 - o)) B B') i) := by
  simp only [F_X0_statement, B_X0_statement_0]
  refine g_type hb h hi ?_
  have br : (tyF u0 i = 25 ∨ tyF u0 i = 26) → wq (bc (F_X9_next N u) fun _ u_19 => bt (F_X9_take N 59 u_19) fun _ u_20 => some (.inr 0, u_20)) (GP u0 n o (gStat u0 (gX u0 (25 - o)) (gX u0 (24 - o)) B B') i) := by
    intro c
    refine gnx hb h hi (by rcases c with c | c <;> (rw [c]; exact nEnd (by decide) (by decide) (by decide))) (fun _ w l1 h1 => ?_)
    exact gtk hb h1 (by omega) (nEnd (by decide) (by decide) (by decide)) (fun _ w2 t2 l2 h2 => gend ⟨i + 2, Or.inr (Or.inr (Or.inr (Or.inr (Or.inl ⟨c, t2, rfl⟩)))), by omega, by omega, h2⟩)
  refine wq_if.mpr ⟨fun c => gsp (h3 i u h hi c) (fun _ w k x1 x2 x3 h6 => gend ⟨k, Or.inl ⟨c, x1⟩, x2, x3, h6⟩), fun _ => ?_⟩
  refine wq_if.mpr ⟨fun c => ?_, fun _ => ?_⟩
  · refine gnx hb h hi (by rw [c]; exact nEnd (by decide) (by decide) (by decide)) (fun _ w l1 h1 => ?_)
    refine gsp (g_E hb hN ho h1 (by omega)) (fun _ w2 k x1 x2 x3 h2 => ?_)
    exact gsp (hB _ w2 h2 x3) (fun _ w3 m y1 y2 y3 h6 => gend ⟨m, Or.inr (Or.inl ⟨c, k, x1, y1⟩), by omega, y3, h6⟩)
  refine wq_if.mpr ⟨fun c => gsp (h4 i u h hi c) (fun _ w k x1 x2 x3 h6 => gend ⟨k, Or.inr (Or.inr (Or.inl ⟨c, x1⟩)), x2, x3, h6⟩), fun _ => ?_⟩
  refine wq_if.mpr ⟨fun c => gsp (h5 i u h hi c) (fun _ w k x1 x2 x3 h6 => gend ⟨k, Or.inr (Or.inr (Or.inr (Or.inl ⟨c, x1⟩))), x2, x3, h6⟩), fun _ => ?_⟩
  refine wq_if.mpr ⟨fun c => br (Or.inl c), fun _ => ?_⟩
  refine wq_if.mpr ⟨fun c => br (Or.inr c), fun _ => ?_⟩
  refine wq_if.mpr ⟨fun c => gsp (g_returned hb hN ho h hi c) (fun _ w k x1 x2 x3 h6 => gend ⟨k, Or.inr (Or.inr (Or.inr (Or.inr (Or.inr (Or.inl ⟨c, x1⟩))))), x2, x3, h6⟩), fun _ => ?_⟩
  refine wq_if.mpr ⟨fun c => ?_, fun _ => ?_⟩
  · refine gnx hb h hi (by rw [c]; exact nEnd (by decide) (by decide) (by decide)) (fun _ w l1 h1 => ?_)
    refine gsp (g_E hb hN ho h1 (by omega)) (fun _ w2 k x1 x2 x3 h2 => ?_)
    exact gtk hb h2 x3 (nEnd (by decide) (by decide) (by decide)) (fun _ w3 t2 l2 h6 => gend ⟨k + 1, Or.inr (Or.inr (Or.inr (Or.inr (Or.inr (Or.inr (Or.inl ⟨c, k, x1, t2, rfl⟩)))))), by omega, by omega, h6⟩)
  refine wq_if.mpr ⟨fun c => gsp (g_named hb hN ho h hi c) (fun _ w k x1 x2 x3 h6 => gend ⟨k, Or.inr (Or.inr (Or.inr (Or.inr (Or.inr (Or.inr (Or.inr ⟨c, x1⟩)))))), x2, x3, h6⟩), fun _ => ?_⟩
  exact grf hb h hi
end GStat
