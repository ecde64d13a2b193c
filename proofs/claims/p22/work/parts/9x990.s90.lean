/-! trace: class and reference alike; the lists of what is traced. -/
def TL (v : CSt) (u : RSt) : Prop := cI v 9 = u.1 98 ∧ 0 ≤ (cI v 9).toInt ∧ (cI v 9).toInt ≤ 16 ∧ ∀ i : Nat, (i : Int) < (cI v 9).toInt → cA v 220 i = u.2.2.1 95 i ∧ cA v 221 i = u.2.2.1 96 i
section Trc
variable {v w : CSt} {u x : RSt} {q s T N M y k n i0 : Nat} {l1 l2 l3 : Int32} {β : Type}
theorem rd_st {a b : Int32} : pp (F_read N a b u) (fun _ w => w = u) := by
  have loop : ∀ (F : Nat) (y : Int32 × Int32 × Int64 × Int32 × RSt), y.2.2.2.2 = u → pp (LP_read_44 N F y) (fun _ w => w = u) := by
    refine pp_lp (Z := fun _ _ w => w = u) (fun (y : Int32 × Int32 × Int64 × Int32 × RSt) => y.2.2.2.2 = u) ?_
    rintro R ⟨y1, y2, y3, y4, y5⟩ h ih
    dsimp only at h
    show pp (B_read_44 N R y1 y2 y3 y4 y5) _
    unfold B_read_44
    exact pp_if (fun _ => pp_some h) (fun _ => pp_rd (ih _ h))
  unfold F_read B_read_0 B_read_37
  exact pp_if (fun _ => pp_if (fun _ => loop _ _ rfl) (fun _ => loop _ _ rfl)) (fun _ => pp_rd (pp_some rfl))
theorem no_st : pp (F_numberOf N l1 l2 u) (fun _ w => w = u) := by
  unfold F_numberOf B_numberOf_0
  exact pp_rd (pp_if (fun _ => pp_rd (pp_rd (pp_bn (pp_m rd_st (fun _ w h => pp_some h))))) (fun _ => pp_rd (pp_rd (pp_some rfl))))
theorem get_st {a b c : Int32} : pq (F_X1_get N a b c v) (fun _ w => w = v) := by
  have loop : ∀ (F : Nat) (y : Int32 × Int32 × Int32 × Int64 × Int32 × CSt), y.2.2.2.2.2 = v → pq (LP_X1_get_6 N F y) (fun _ w => w = v) := by
    refine pq_lp (Z := fun _ _ w => w = v) (fun (y : Int32 × Int32 × Int32 × Int64 × Int32 × CSt) => y.2.2.2.2.2 = v) ?_
    rintro R ⟨y1, y2, y3, y4, y5, y6⟩ h ih
    dsimp only at h
    show pq (B_X1_get_6 N R y1 y2 y3 y4 y5 y6) _
    unfold B_X1_get_6 B_X1_get_57
    exact pq_rd (pq_if (fun _ => pq_some h) (fun _ => pq_if (fun _ => pq_some h) (fun _ => pq_if (fun _ => pq_some h) (fun _ => pq_ix (fun _ => pq_rd (ih _ h))))))
  unfold F_X1_get B_X1_get_0
  exact loop _ _ rfl
theorem num_st {m : Nat} : pq (F_X2_numberOf N m l2 v) (fun _ w => w = v) := by
  have pl : ∀ {kk : Int32 → CSt → Option (Int64 × CSt)}, (∀ r, pq (kk r v) (fun _ w => w = v)) → pq (bc (F_X4_isPlaced N m v) kk) (fun _ w => w = v) := by
    intro kk hk
    refine pq_bc ?_
    unfold F_X4_isPlaced B_X4_isPlaced_0 B_X4_isPlaced_23
    exact pq_if (fun _ => pq_if (fun _ => pq_some (hk _)) (fun _ => pq_if (fun _ => pq_some (hk _)) (fun _ => pq_some (hk _)))) (fun _ => pq_some (hk _))
  have pi : ∀ {kk : Int32 → CSt → Option (Int64 × CSt)}, (∀ r, pq (kk r v) (fun _ w => w = v)) → pq (bc (F_X4_isInput N m v) kk) (fun _ w => w = v) := by
    intro kk hk
    refine pq_bc ?_
    unfold F_X4_isInput B_X4_isInput_0
    exact pq_if (fun _ => pq_if (fun _ => pq_some (hk _)) (fun _ => pq_some (hk _))) (fun _ => pq_some (hk _))
  have na : ∀ a, pq (F_X2_numberAt N a v) (fun _ w => w = v) := by
    intro a
    unfold F_X2_numberAt B_X2_numberAt_0
    exact pq_if (fun _ => pq_some rfl) (fun _ => pq_if (fun _ => pq_some rfl) (fun _ => pq_rd (pq_some rfl)))
  unfold F_X2_numberOf B_X2_numberOf_0 B_X2_numberOf_23
  exact pl (fun _ => pq_if (fun _ => pq_bc (pq_m (na _) (fun _ w h => pq_some h))) (fun _ => pi (fun _ => pq_if (fun _ => pq_bc (pq_m get_st (fun _ w h => pq_some h))) (fun _ => pq_bc (pq_m get_st (fun _ w h => pq_some h))))))
def mtq (v : CSt) (l1 l2 : Int32) (i : Nat) : Prop := cA v 220 i = l1 ∧ cA v 221 i = l2
/-- found: at i0 first; or nowhere below n -/
def fnd (v : CSt) (l1 l2 : Int32) (n i0 : Nat) : Prop := (i0 ≤ n ∧ ∀ j, j < i0 → ¬ mtq v l1 l2 j) ∧ (i0 = n ∨ mtq v l1 l2 i0)
theorem ks_index (hn : (cI v 9).toInt = (n : Int)) (h16 : n ≤ 16) : pq (F_X10_indexOf N l1 l2 v) (fun r w => w = v ∧ ∃ i0, fnd v l1 l2 n i0 ∧ ((i0 = n ∧ r = -1) ∨ (i0 < n ∧ r.toInt = (i0 : Int)))) := by
  have e1 : (1 : Int32).toInt = 1 := by decide
  unfold F_X10_indexOf B_X10_indexOf_0
  refine pq_lp (Z := fun _ (r : Int32) w => w = v ∧ ∃ i0, fnd v l1 l2 n i0 ∧ ((i0 = n ∧ r = -1) ∨ (i0 < n ∧ r.toInt = (i0 : Int)))) (fun (y : Int32 × Int32 × Int32 × CSt) => y.1 = l1 ∧ y.2.1 = l2 ∧ y.2.2.2 = v ∧ ∃ i : Nat, y.2.2.1.toInt = (i : Int) ∧ i ≤ n ∧ ∀ j, j < i → ¬ mtq v l1 l2 j) ?_ N (l1, l2, 0, v) ⟨rfl, rfl, rfl, 0, z32, Nat.zero_le _, fun j hj => absurd hj (Nat.not_lt_zero _)⟩
  rintro R ⟨y1, y2, y3, y4⟩ ⟨h1, h2, h3, i, h4, h5, h6⟩ ih
  dsimp only at h1 h2 h3 h4
  rw [h1, h2, h3]
  show pq (B_X10_indexOf_2 N R l1 l2 y3 v) _
  unfold B_X10_indexOf_2 B_X10_indexOf_32
  refine pq_if (fun c => pq_some ⟨rfl, n, ⟨⟨Nat.le_refl _, ?_⟩, Or.inl rfl⟩, Or.inl ⟨rfl, rfl⟩⟩) (fun c => pq_rd ?_)
  · have := Int32.le_iff_toInt_le.mp c
    have ei : i = n := by omega
    rw [← ei]
    exact h6
  · have c' : (i : Int) < (n : Int) := Int.not_le.mp (fun z => c (Int32.le_iff_toInt_le.mpr (by omega)))
    have next : ¬ mtq v l1 l2 i → pq (R (l1, l2, y3 + 1, v)) (fun r w => w = v ∧ ∃ i0, fnd v l1 l2 n i0 ∧ ((i0 = n ∧ r = -1) ∨ (i0 < n ∧ r.toInt = (i0 : Int)))) := by
      intro hm
      refine ih _ ⟨rfl, rfl, rfl, i + 1, ?_, by omega, fun j hj => ?_⟩
      · show (y3 + 1).toInt = _
        rw [tI_add (by omega) (by omega), e1]
        omega
      · rcases Nat.lt_or_eq_of_le (Nat.lt_succ_iff.mp hj) with z | z
        · exact h6 j z
        · rw [z]; exact hm
    rw [n_of h4]
    refine pq_if (fun z1 => pq_rd ?_) (fun z1 => next (fun m => z1 m.1))
    rw [n_of h4]
    exact pq_if (fun z2 => pq_some ⟨rfl, i, ⟨⟨h5, h6⟩, Or.inr ⟨z1, z2⟩⟩, Or.inr ⟨by omega, h4⟩⟩) (fun z2 => next (fun m => z2 m.2))
/-- the reference's search -/
theorem y_index {Q : Int32 → RSt → Prop} (hL : TL v x) (hn : (cI v 9).toInt = (n : Int)) (kk : ∀ (l4 : Int32) i0, fnd v l1 l2 n i0 → l4.toInt = (i0 : Int) → pp (B_trace_51 N l1 l2 l3 l4 x) Q) : pp (LP_trace_14 N N (l1, l2, l3, 0, x)) Q := by
  have e1 : (1 : Int32).toInt = 1 := by decide
  obtain ⟨t1, t2, t3, t4⟩ := hL
  have h98 : (x.1 98).toInt = (n : Int) := by rw [← t1]; exact hn
  refine pp_lp (Z := fun _ => Q) (fun (y : Int32 × Int32 × Int32 × Int32 × RSt) => y.1 = l1 ∧ y.2.1 = l2 ∧ y.2.2.1 = l3 ∧ y.2.2.2.2 = x ∧ ∃ i : Nat, y.2.2.2.1.toInt = (i : Int) ∧ i ≤ n ∧ ∀ j, j < i → ¬ mtq v l1 l2 j) ?_ N _ ⟨rfl, rfl, rfl, rfl, 0, z32, Nat.zero_le _, fun j hj => absurd hj (Nat.not_lt_zero _)⟩
  rintro R ⟨y1, y2, y3, y4, y5⟩ ⟨h1, h2, h3, h3', i, h4, h5, h6⟩ ih
  dsimp only at h1 h2 h3 h3' h4
  rw [h1, h2, h3, h3']
  show pp (B_trace_14 N R l1 l2 l3 y4 x) _
  unfold B_trace_14 B_trace_45
  refine pp_if (fun c => ?_) (fun c => pp_rd ?_)
  · have := Int32.le_iff_toInt_le.mp c
    have ei : i = n := by omega
    exact kk y4 i ⟨⟨h5, h6⟩, Or.inl ei⟩ h4
  · have c' : (i : Int) < (n : Int) := Int.not_le.mp (fun z => c (Int32.le_iff_toInt_le.mpr (by omega)))
    obtain ⟨g1, g2⟩ := t4 i (by omega)
    have next : ¬ mtq v l1 l2 i → pp (R (l1, l2, l3, y4 + 1, x)) Q := by
      intro hm
      refine ih _ ⟨rfl, rfl, rfl, rfl, i + 1, ?_, by omega, fun j hj => ?_⟩
      · show (y4 + 1).toInt = _
        rw [tI_add (by omega) (by omega), e1]
        omega
      · rcases Nat.lt_or_eq_of_le (Nat.lt_succ_iff.mp hj) with z | z
        · exact h6 j z
        · rw [z]; exact hm
    rw [n_of h4, ← g1]
    refine pp_if (fun z1 => pp_rd ?_) (fun z1 => next (fun m => z1 m.1))
    rw [n_of h4, ← g2]
    exact pp_if (fun z2 => kk y4 i ⟨⟨h5, h6⟩, Or.inr ⟨z1, z2⟩⟩ h4) (fun z2 => next (fun m => z2 m.2))
theorem fnd_1 {i1 i2 : Nat} (h1 : fnd v l1 l2 n i1) (h2 : fnd v l1 l2 n i2) : i1 = i2 := by
  obtain ⟨⟨a1, a2⟩, a3⟩ := h1
  obtain ⟨⟨b1, b2⟩, b3⟩ := h2
  rcases Nat.lt_trichotomy i1 i2 with z | z | z
  · rcases a3 with a3 | a3
    · omega
    · exact absurd a3 (b2 i1 z)
  · exact z
  · rcases b3 with b3 | b3
    · omega
    · exact absurd b3 (a2 i2 z)
/-- what lies behind moves up -/
def sh (i0 j : Nat) : Nat := if i0 ≤ j then j + 1 else j
theorem ks_leave {a : Int32} (hn : (cI v 9).toInt = (n : Int)) (h16 : n ≤ 16) (ha : a.toInt = (i0 : Int)) (hi : i0 < n) : pq (F_X10_leave N a v) (fun _ w => cI w 9 = cI v 9 - 1 ∧ ∀ j, j + 1 < n → cA w 220 j = cA v 220 (sh i0 j) ∧ cA w 221 j = cA v 221 (sh i0 j)) := by
  have e1 : (1 : Int32).toInt = 1 := by decide
  have e0 : (0 : Int32).toInt = 0 := by decide
  unfold F_X10_leave B_X10_leave_0
  refine pq_lp (Z := fun _ _ w => cI w 9 = cI v 9 - 1 ∧ ∀ j, j + 1 < n → cA w 220 j = cA v 220 (sh i0 j) ∧ cA w 221 j = cA v 221 (sh i0 j)) (fun (y : Int32 × CSt) => cI y.2 9 = cI v 9 ∧ ∃ i : Nat, y.1.toInt = (i : Int) ∧ i0 ≤ i ∧ i < n ∧ (∀ j, j < i → cA y.2 220 j = cA v 220 (sh i0 j) ∧ cA y.2 221 j = cA v 221 (sh i0 j)) ∧ ∀ j, i ≤ j → cA y.2 220 j = cA v 220 j ∧ cA y.2 221 j = cA v 221 j) ?_ N _ ⟨rfl, i0, ha, Nat.le_refl _, hi, fun j hj => ?_, fun _ _ => ⟨rfl, rfl⟩⟩
  · rintro R ⟨y1, y2⟩ ⟨h1, i, h2, h3, h4, h5, h6⟩ ih
    dsimp only at h1 h2 h5 h6
    show pq (B_X10_leave_2 N R y1 y2) _
    unfold B_X10_leave_2 B_X10_leave_64
    have s1 : (y1 + 1).toInt = ((i + 1 : Nat) : Int) := by rw [tI_add (by omega) (by omega), e1]; omega
    rw [if_neg (fun c => by have := Int32.lt_iff_toInt_lt.mp c; omega)]
    refine pq_if (fun c => pq_pc (pq_some ⟨?_, fun j hj => ?_⟩)) (fun c => ?_)
    · show cI y2 9 - 1 = cI v 9 - 1
      rw [h1]
    · have c : cI y2 9 ≤ y1 + 1 := c
      have := Int32.le_iff_toInt_le.mp c
      rw [h1] at this
      exact h5 j (by omega)
    · have c' : (i + 1 : Nat) < n := by
        have : ¬ (cI y2 9).toInt ≤ (y1 + 1).toInt := fun z => c (Int32.le_iff_toInt_le.mpr z)
        rw [h1] at this
        omega
      obtain ⟨p1, p2⟩ := h6 (i + 1) (by omega)
      refine pq_rd (pq_wc (pq_rd (pq_wc (pq_rd (pq_wc ?_)))))
      rw [n_of s1, n_of h2]
      refine ih _ ⟨h1, i + 1, s1, by omega, c', fun j hj => ?_, fun j hj => ?_⟩
      · by_cases z : j = i
        · subst z
          have es : sh i0 j = j + 1 := if_pos h3
          rw [es]
          constructor
          · show (if j = j then cA y2 220 (j + 1) else cA y2 220 j) = _
            rw [if_pos rfl]; exact p1
          · show (if j = j then cA y2 221 (j + 1) else cA y2 221 j) = _
            rw [if_pos rfl]; exact p2
        · obtain ⟨g1, g2⟩ := h5 j (by omega)
          constructor
          · show (if j = i then cA y2 220 (i + 1) else cA y2 220 j) = _
            rw [if_neg z]; exact g1
          · show (if j = i then cA y2 221 (i + 1) else cA y2 221 j) = _
            rw [if_neg z]; exact g2
      · obtain ⟨g1, g2⟩ := h6 j (by omega)
        constructor
        · show (if j = i then cA y2 220 (i + 1) else cA y2 220 j) = _
          rw [if_neg (by omega)]; exact g1
        · show (if j = i then cA y2 221 (i + 1) else cA y2 221 j) = _
          rw [if_neg (by omega)]; exact g2
  · have es : sh i0 j = j := if_neg (by omega)
    rw [es]
    exact ⟨rfl, rfl⟩
theorem y_leave {a : Int32} (hn : (u.1 98).toInt = (n : Int)) (h16 : n ≤ 16) (ha : a.toInt = (i0 : Int)) (hi : i0 ≤ n) : pp (LP_trace_164 N N (a, u)) (fun r w => r = 1 ∧ w.1 9 = u.1 9 ∧ w.1 98 = u.1 98 ∧ ∀ j, j < n → w.2.2.1 95 j = u.2.2.1 95 (sh i0 j) ∧ w.2.2.1 96 j = u.2.2.1 96 (sh i0 j)) := by
  have e1 : (1 : Int32).toInt = 1 := by decide
  refine pp_lp (Z := fun _ r w => r = 1 ∧ w.1 9 = u.1 9 ∧ w.1 98 = u.1 98 ∧ ∀ j, j < n → w.2.2.1 95 j = u.2.2.1 95 (sh i0 j) ∧ w.2.2.1 96 j = u.2.2.1 96 (sh i0 j)) (fun (y : Int32 × RSt) => y.2.1 9 = u.1 9 ∧ y.2.1 98 = u.1 98 ∧ ∃ i : Nat, y.1.toInt = (i : Int) ∧ i0 ≤ i ∧ i ≤ n ∧ (∀ j, j < i → y.2.2.2.1 95 j = u.2.2.1 95 (sh i0 j) ∧ y.2.2.2.1 96 j = u.2.2.1 96 (sh i0 j)) ∧ ∀ j, i ≤ j → y.2.2.2.1 95 j = u.2.2.1 95 j ∧ y.2.2.2.1 96 j = u.2.2.1 96 j) ?_ N _ ⟨rfl, rfl, i0, ha, Nat.le_refl _, hi, fun j hj => ?_, fun _ _ => ⟨rfl, rfl⟩⟩
  · rintro R ⟨y1, y2⟩ ⟨h0, h1, i, h2, h3, h4, h5, h6⟩ ih
    dsimp only at h0 h1 h2 h5 h6
    show pp (B_trace_164 N R y1 y2) _
    unfold B_trace_164
    have s1 : (y1 + 1).toInt = ((i + 1 : Nat) : Int) := by rw [tI_add (by omega) (by omega), e1]; omega
    refine pp_if (fun c => pp_some ⟨rfl, h0, h1, fun j hj => ?_⟩) (fun c => ?_)
    · have := Int32.le_iff_toInt_le.mp c
      rw [h1] at this
      exact h5 j (by omega)
    · have c' : i < n := by
        have : ¬ (y2.1 98).toInt ≤ y1.toInt := fun z => c (Int32.le_iff_toInt_le.mpr z)
        rw [h1] at this
        omega
      obtain ⟨p1, p2⟩ := h6 (i + 1) (by omega)
      refine pp_rd (pp_wr (pp_rd (pp_wr (pp_rd (pp_wr ?_)))))
      rw [n_of s1, n_of h2]
      refine ih _ ⟨h0, h1, i + 1, s1, by omega, by omega, fun j hj => ?_, fun j hj => ?_⟩
      · by_cases z : j = i
        · subst z
          have es : sh i0 j = j + 1 := if_pos h3
          rw [es]
          constructor
          · show (if j = j then y2.2.2.1 95 (j + 1) else y2.2.2.1 95 j) = _
            rw [if_pos rfl]; exact p1
          · show (if j = j then y2.2.2.1 96 (j + 1) else y2.2.2.1 96 j) = _
            rw [if_pos rfl]; exact p2
        · obtain ⟨g1, g2⟩ := h5 j (by omega)
          constructor
          · show (if j = i then y2.2.2.1 95 (i + 1) else y2.2.2.1 95 j) = _
            rw [if_neg z]; exact g1
          · show (if j = i then y2.2.2.1 96 (i + 1) else y2.2.2.1 96 j) = _
            rw [if_neg z]; exact g2
      · obtain ⟨g1, g2⟩ := h6 j (by omega)
        constructor
        · show (if j = i then y2.2.2.1 95 (i + 1) else y2.2.2.1 95 j) = _
          rw [if_neg (by omega)]; exact g1
        · show (if j = i then y2.2.2.1 96 (i + 1) else y2.2.2.1 96 j) = _
          rw [if_neg (by omega)]; exact g2
  · have es : sh i0 j = j := if_neg (by omega)
    rw [es]
    exact ⟨rfl, rfl⟩
theorem ku_98 : pp (F_hasPlace M l1 l2 u) (fun _ x => x.1 98 = u.1 98 ∧ x.2.2.1 95 = u.2.2.1 95 ∧ x.2.2.1 96 = u.2.2.1 96) := by
  have b38 : ∀ z : RSt, (z.1 98 = u.1 98 ∧ z.2.2.1 95 = u.2.2.1 95 ∧ z.2.2.1 96 = u.2.2.1 96) → pp (B_hasPlace_38 M z) (fun _ x => x.1 98 = u.1 98 ∧ x.2.2.1 95 = u.2.2.1 95 ∧ x.2.2.1 96 = u.2.2.1 96) := by
    intro z hz
    unfold B_hasPlace_38
    exact pp_if (fun _ => pp_some hz) (fun _ => pp_some hz)
  have hv : pp (F_hasVariable M l1 u) (fun _ x => x.1 98 = u.1 98 ∧ x.2.2.1 95 = u.2.2.1 95 ∧ x.2.2.1 96 = u.2.2.1 96) := by
    unfold F_hasVariable B_hasVariable_0 B_hasVariable_25
    exact pp_rd (pp_if (fun _ => pp_pu (pp_if (fun _ => pp_some ⟨rfl, rfl, rfl⟩) (fun _ => pp_some ⟨rfl, rfl, rfl⟩))) (fun _ => pp_pu (pp_if (fun _ => pp_some ⟨rfl, rfl, rfl⟩) (fun _ => pp_some ⟨rfl, rfl, rfl⟩))))
  unfold F_hasPlace B_hasPlace_0
  exact pp_bn (pp_m hv (fun r z hz => pp_if (fun _ => b38 z hz) (fun _ => pp_rd (pp_if (fun _ => pp_pu (b38 _ hz)) (fun _ => b38 z hz)))))
theorem trace_T (h : TBM v u q s T) (hL : TL v u) (hq : cR v 0 = q) (h55 : (u.1 55).toInt = (s : Int)) (hs : s < 2) (hb : l3 = 0 ∨ l3 = 1) : pq (F_X11_trace N l1 l2 l3 v) (fun y w => pp (F_trace M l1 l2 l3 u) (fun r x => ((y = .inl 3 ∧ x.1 9 = 1) ∨ (y = .inl 0 ∧ x.1 9 = 2) ∨ (y = .inr r ∧ x.1 9 = 0)) ∧ TL w x)) := by
  have e1 : (1 : Int32).toInt = 1 := by decide
  have e16 : (16 : Int32).toInt = 16 := by decide
  have t9 : ∀ a : Int32, TL v (sI u 9 a) := fun a => hL
  obtain ⟨t1, t2, t3, t4⟩ := id hL
  obtain ⟨n, hn⟩ : ∃ n : Nat, (cI v 9).toInt = (n : Int) := ⟨(cI v 9).toInt.toNat, by omega⟩
  unfold F_X11_trace B_X11_trace_0
  refine pq_bc (pq_m (hasP_T (M := M) h hq h55 hs) (fun r w hw => ?_))
  obtain ⟨e, hp⟩ := hw
  rw [e]
  unfold F_trace B_trace_0
  by_cases r0 : r = 0
  · rw [if_pos r0]
    refine pq_some (pp_bn (pp_m (pp_and hp (ku_98 (M := M) (l1 := l1) (l2 := l2) (u := u))) (fun r' x hx => ?_)))
    obtain ⟨hx, hk⟩ := hx
    rcases hx with ⟨-, a2, a3⟩ | ⟨a1, -⟩
    · rw [a2, if_pos rfl]
      refine pp_some ⟨Or.inl ⟨rfl, a3⟩, ?_⟩
      exact ⟨t1.trans hk.1.symm, t2, t3, fun i hi => ⟨(t4 i hi).1.trans (by rw [hk.2.1]), (t4 i hi).2.trans (by rw [hk.2.2])⟩⟩
    · rw [a1] at r0
      exact absurd r0 (by decide)
  · rw [if_neg r0]
    refine pq_bc (pq_m (ks_index hn (by omega)) (fun ri w2 h2 => ?_))
    obtain ⟨ew, i0, hf, hi0⟩ := h2
    rw [ew]
    refine pq_sw (pp_bn (pp_m hp (fun r' x hx => ?_)))
    rcases hx with ⟨a1, -⟩ | ⟨-, a2, a3, y, k, hy, hn2⟩
    · exact absurd a1 r0
    rw [a2, a3, if_neg (by decide)]
    refine y_index (v := v) (n := n) (t9 0) hn (fun l4 i1 hf1 hl4 => ?_)
    have ei := fnd_1 hf1 hf
    rw [ei] at hl4
    have u98 : ((sI u 9 0).1 98).toInt = (n : Int) := by show (u.1 98).toInt = _; rw [← t1]; exact hn
    unfold B_trace_51
    rcases hi0 with ⟨z0, z1⟩ | ⟨z0, z1⟩
    · -- it isn't traced
      rw [if_pos (Int32.le_iff_toInt_le.mpr (by omega)), z1]
      unfold B_trace_65
      rcases hb with b0 | b0
      · rw [b0, if_pos rfl, if_pos rfl]
        unfold B_trace_90 B_X11_trace_63 B_X11_trace_75
        rw [if_neg (show ¬ (0 : Int32) < (sI u 9 0).1 9 by show ¬ (0 : Int32) < 0; decide), if_pos rfl, if_pos rfl, if_pos rfl]
        exact pp_some (pq_some ⟨Or.inr (Or.inr ⟨rfl, rfl⟩), t9 0⟩)
      · rw [b0, if_neg (show ¬ (1 : Int32) = 0 by decide), if_pos (show (0 : Int32) = 0 from rfl), if_neg (show ¬ (1 : Int32) = 0 by decide), if_pos (show (-1 : Int32) = -1 from rfl)]
        by_cases c16 : n = 16
        · rw [if_pos (tI_eq.mpr (by rw [u98, e16]; omega)), if_neg (fun z => by have := Int32.lt_iff_toInt_lt.mp z; omega)]
          refine pp_pu ?_
          unfold B_trace_90
          rw [if_pos (show (0 : Int32) < (sI (sI u 9 0) 9 2).1 9 by show (0 : Int32) < 2; decide)]
          exact pp_some (pq_some ⟨Or.inr (Or.inl ⟨rfl, rfl⟩), hL⟩)
        · rw [if_neg (fun z => c16 (by have := congrArg Int32.toInt z; rw [u98, e16] at this; omega)), if_pos (Int32.lt_iff_toInt_lt.mpr (by omega))]
          unfold B_trace_90 B_X11_trace_63 B_X11_trace_75
          rw [if_neg (show ¬ (0 : Int32) < (sI u 9 0).1 9 by show ¬ (0 : Int32) < 0; decide), if_neg (by decide), if_neg (by decide), if_pos rfl, if_neg (by decide), if_neg (by decide)]
          refine pp_wr (pp_wr (pp_bn (pp_m no_st (fun r5 x5 h5 => pp_wr (pp_pu (pp_some ?_))))))
          rw [h5, n_of hl4]
          refine pq_ok (fun _ => ?_)
          rw [hq]
          refine pq_bc (pq_m (hn2 N) (fun r6 w6 h6 => pq_ok (fun _ => pq_bc (pq_m num_st (fun r7 w7 h7 => pq_bc ?_)))))
          rw [h7, h6.1]
          unfold F_X10_begin B_X10_begin_0
          rw [if_neg (fun z => by have := Int32.le_iff_toInt_le.mp z; omega)]
          refine pq_wc (pq_wc (pq_wc (pq_pc (pq_some (pq_some ⟨Or.inr (Or.inr ⟨rfl, rfl⟩), ?_⟩)))))
          have s1 : (cI v 9 + 1).toInt = ((n + 1 : Nat) : Int) := by rw [tI_add (by omega) (by omega), e1]; omega
          refine ⟨?_, ?_, ?_, fun i hi => ?_⟩
          · show cI v 9 + 1 = u.1 98 + 1
            rw [t1]
          · show 0 ≤ (cI v 9 + 1).toInt
            omega
          · show (cI v 9 + 1).toInt ≤ 16
            omega
          · have hi : (i : Int) < (cI v 9 + 1).toInt := hi
            have e9 : (cI v 9).toNatClampNeg = n := n_of hn
            constructor
            · show (if i = (cI v 9).toNatClampNeg then l1 else cA v 220 i) = (if i = i0 then l1 else u.2.2.1 95 i)
              rw [e9, z0]
              by_cases z : i = n
              · rw [if_pos z, if_pos z]
              · rw [if_neg z, if_neg z]
                exact (t4 i (by omega)).1
            · show (if i = (cI v 9).toNatClampNeg then l2 else cA v 221 i) = (if i = i0 then l2 else u.2.2.1 96 i)
              rw [e9, z0]
              by_cases z : i = n
              · rw [if_pos z, if_pos z]
              · rw [if_neg z, if_neg z]
                exact (t4 i (by omega)).2
    · -- it is traced
      have rn : ¬ ri = -1 := fun z => by rw [z] at z1; have em : (-1 : Int32).toInt = -1 := by decide
                                         omega
      rw [if_neg (fun z => by have := Int32.le_iff_toInt_le.mp z; omega)]
      unfold B_trace_65
      rcases hb with b0 | b0
      · rw [b0, if_pos rfl, if_pos rfl]
        unfold B_trace_90 B_X11_trace_63 B_X11_trace_75
        rw [if_neg (show ¬ (0 : Int32) < (sI u 9 0).1 9 by show ¬ (0 : Int32) < 0; decide), if_neg (by decide), if_pos rfl, if_neg rn, if_neg (by decide), if_pos rfl]
        have s1 : ((sI u 9 0).1 98 - 1).toInt = ((n - 1 : Nat) : Int) := by rw [tI_sub (by omega) (by omega), e1]; omega
        refine pp_pu (pp_m (y_leave (u := sI (sI u 9 0) 98 ((sI u 9 0).1 98 - 1)) (n := n - 1) (i0 := i0) s1 (by omega) hl4 (by omega)) (fun r5 x5 h5 => ?_))
        obtain ⟨g0, g1, g2, g3⟩ := h5
        refine pq_bc (pq_m (ks_leave hn (by omega) z1 z0) (fun _ w6 h6 => pq_some ?_))
        obtain ⟨k1, k2⟩ := h6
        have c1 : (cI v 9 - 1).toInt = ((n - 1 : Nat) : Int) := by rw [tI_sub (by omega) (by omega), e1]; omega
        refine ⟨Or.inr (Or.inr ⟨by rw [g0], g1⟩), ?_, ?_, ?_, fun i hi => ?_⟩
        · rw [k1, g2]
          show cI v 9 - 1 = u.1 98 - 1
          rw [t1]
        · rw [k1]
          omega
        · rw [k1]
          omega
        · rw [k1] at hi
          obtain ⟨a1, a2⟩ := k2 i (by omega)
          obtain ⟨b1, b2⟩ := g3 i (by omega)
          have hsh : (sh i0 i : Int) < (cI v 9).toInt := by
            unfold sh
            split <;> omega
          obtain ⟨d1, d2⟩ := t4 (sh i0 i) hsh
          exact ⟨a1.trans (d1.trans b1.symm), a2.trans (d2.trans b2.symm)⟩
      · rw [b0, if_neg (by decide), if_neg (by decide), if_neg (by decide), if_neg rn]
        unfold B_trace_90 B_X11_trace_63 B_X11_trace_75
        rw [if_neg (show ¬ (0 : Int32) < (sI u 9 0).1 9 by show ¬ (0 : Int32) < 0; decide), if_pos rfl, if_neg rn, if_pos rfl]
        exact pp_some (pq_some ⟨Or.inr (Or.inr ⟨rfl, rfl⟩), t9 0⟩)
end Trc
