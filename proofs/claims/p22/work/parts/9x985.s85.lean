/-! variable: class and reference answer alike, from the tables of what is installed. -/
section VarS
variable {v w : CSt} {u x : RSt} {q s T N M : Nat} {l1 l2 l3 r : Int32}
theorem rin0 {l m : Int32} (h0 : 0 ≤ m.toInt) (h1 : m.toInt ≤ 1000) : (r_in l 0 (m - 1) = 0 ∧ ¬ (0 ≤ l.toInt ∧ l.toInt < m.toInt)) ∨ (r_in l 0 (m - 1) = 1 ∧ (0 ≤ l.toInt ∧ l.toInt < m.toInt)) := by
  have e0 : (0 : Int32).toInt = 0 := by decide
  have e1 : (1 : Int32).toInt = 1 := by decide
  have em : (m - 1).toInt = m.toInt - 1 := by rw [tI_sub (by rw [e1]; omega) (by rw [e1]; omega), e1]
  unfold r_in
  by_cases c : l < 0
  · rw [if_pos c]
    have := Int32.lt_iff_toInt_lt.mp c
    rw [e0] at this
    exact Or.inl ⟨rfl, fun z => by omega⟩
  · have c' : ¬ l.toInt < 0 := fun z => c (Int32.lt_iff_toInt_lt.mpr (by rw [e0]; exact z))
    rw [if_neg c]
    by_cases d : m - 1 < l
    · rw [if_pos d]
      have := Int32.lt_iff_toInt_lt.mp d
      rw [em] at this
      exact Or.inl ⟨rfl, fun z => by omega⟩
    · have d' : ¬ (m.toInt - 1 < l.toInt) := fun z => d (Int32.lt_iff_toInt_lt.mpr (by rw [em]; exact z))
      rw [if_neg d]
      exact Or.inr ⟨rfl, by omega, by omega⟩
theorem y_hasV (h55 : (u.1 55).toInt = (s : Int)) (h0 : 0 ≤ (u.2.2.1 19 s).toInt) (h1 : (u.2.2.1 19 s).toInt ≤ 1000) : pp (F_hasVariable N l1 u) (fun r x => ((0 ≤ l1.toInt ∧ l1.toInt < (u.2.2.1 19 s).toInt) ∧ r = 1 ∧ x = sI u 9 0) ∨ (¬ (0 ≤ l1.toInt ∧ l1.toInt < (u.2.2.1 19 s).toInt) ∧ r = 0 ∧ x = sI u 9 1)) := by
  have n55 : (u.1 55).toNatClampNeg = s := by show (u.1 55).toInt.toNat = s; omega
  unfold F_hasVariable B_hasVariable_0 B_hasVariable_25
  refine pp_rd ?_
  rw [n55]
  rcases rin0 (l := l1) h0 h1 with ⟨e, n⟩ | ⟨e, n⟩
  · rw [if_pos e]
    refine pp_pu ?_
    rw [if_neg (show ¬ (sI u 9 1).1 9 = 0 by show ¬ (1 : Int32) = 0; decide)]
    exact pp_some (Or.inr ⟨n, rfl, rfl⟩)
  · rw [if_neg (by rw [e]; decide)]
    refine pp_pu ?_
    rw [if_pos (show (sI u 9 0).1 9 = 0 from rfl)]
    exact pp_some (Or.inl ⟨n, rfl, rfl⟩)
theorem k_has0 : pq (F_X6_has N q 0 l1 v) (fun r w => w = v ∧ (((0 ≤ l1.toInt ∧ l1.toInt < (pA v q 9 0).toInt) ∧ r = 1) ∨ (¬ (0 ≤ l1.toInt ∧ l1.toInt < (pA v q 9 0).toInt) ∧ r = 0))) := by
  have e0 : (0 : Int32).toInt = 0 := by decide
  unfold F_X6_has B_X6_has_0
  refine pq_if (fun c => pq_some ⟨rfl, Or.inr ⟨fun z => ?_, rfl⟩⟩) (fun c => pq_rd (pq_if (fun d => pq_some ⟨rfl, Or.inr ⟨fun z => ?_, rfl⟩⟩) (fun d => pq_some ⟨rfl, Or.inl ⟨⟨?_, ?_⟩, rfl⟩⟩)))
  · have := Int32.lt_iff_toInt_lt.mp c
    omega
  · have d : (pA v q 9 0).toInt ≤ l1.toInt := Int32.le_iff_toInt_le.mp d
    omega
  · exact Int.not_lt.mp (fun z => c (Int32.lt_iff_toInt_lt.mpr (by rw [e0]; exact z)))
  · exact Int.not_le.mp (fun z => d (Int32.le_iff_toInt_le.mpr z))
/-- the variable l1: its name in the class, its row in the reference -/
theorem k_nth0 (h : TBM v u q s T) (hl : 0 ≤ l1.toInt ∧ l1.toInt < (pA v q 9 0).toInt) : ∃ y, y < T ∧ mI v (169 * q + y) 2 = 0 ∧ (mI v (169 * q + y) 4).toInt = l1.toInt ∧ pq (F_X6_nth N q 0 l1 v) (fun r w => w = v ∧ r = 169 * q + y) := by
  have e0 : (0 : Int32).toInt = 0 := by decide
  obtain ⟨t1, t2, t3, t4, t5, ⟨t6, t6'⟩, t7, -⟩ := h
  obtain ⟨y, y1, y2, y3, y4⟩ := t6' 0 (by decide) l1.toInt.toNat (by omega)
  refine ⟨y, y1, tI_eq.mpr (by rw [y3, e0]; rfl), by rw [y4]; omega, ?_⟩
  unfold F_X6_nth B_X6_nth_0
  refine pq_bc (pq_m k_has0 (fun r w hw => ?_))
  obtain ⟨e, hr⟩ := hw
  rw [e]
  rcases hr with ⟨-, hr⟩ | ⟨n, -⟩
  · rw [hr, if_neg (by decide)]
    refine pq_ix (fun _ => pq_rd ?_)
    have ey : (pA v q (4 + (0 : Int32).toNatClampNeg) l1.toNatClampNeg).toInt = (y : Int) := y2
    generalize pA v q (4 + (0 : Int32).toNatClampNeg) l1.toNatClampNeg = b at ey ⊢
    refine pq_bc ?_
    unfold F_X6_name B_X6_name_0
    rw [if_neg (fun z => by have := Int32.lt_iff_toInt_lt.mp z; rw [e0] at this; omega), if_neg (fun z => by have := Int32.le_iff_toInt_le.mp z; omega)]
    refine pq_ix (fun _ => pq_some (pq_ok (fun _ => pq_some ⟨rfl, ?_⟩)))
    have : b.toNatClampNeg = y := by show b.toInt.toNat = y; omega
    rw [this]
  · exact absurd hl n
theorem var_T (h : TBM v u q s T) (hq : cR v 0 = q) (h55 : (u.1 55).toInt = (s : Int)) (hs : s < 2) : pq (F_X11_variable N l1 l2 v) (fun y w => pp (F_variable M l1 l2 u) (fun r x => (y = .inl 3 ∧ x.1 9 = 1) ∨ (y = .inl 1 ∧ x.1 9 = 2) ∨ (y = .inr r ∧ x.1 9 = 0))) := by
  have c := h.2.2.2.2.2.2.1
  unfold CTN at c
  obtain ⟨c1, -, -, -, -, ⟨d1, d2⟩, -⟩ := c
  have hT := h.2.1
  have e160 : (160 : Int32).toInt = ((160 : Nat) : Int) := by decide
  unfold F_X11_variable B_X11_variable_0
  refine pq_ok (fun _ => ?_)
  rw [hq]
  refine pq_bc (pq_m k_has0 (fun r w hw => ?_))
  obtain ⟨e, hr⟩ := hw
  rw [e]
  unfold F_variable B_variable_0
  have ref := y_hasV (N := M) (l1 := l1) h55 d1 (by omega)
  rcases hr with ⟨hl, hr⟩ | ⟨n, hr⟩
  · rw [hr, if_neg (by decide), hq]
    refine pq_ok (fun _ => ?_)
    obtain ⟨y, y1, y2, y3, hn⟩ := k_nth0 (N := N) h hl
    refine pq_bc (pq_m hn (fun r5 w5 h5 => pq_ok (fun _ => ?_)))
    rw [h5.1, h5.2]
    have hl' : 0 ≤ l1.toInt ∧ l1.toInt < (u.2.2.1 19 s).toInt := by rw [← c1]; exact hl
    obtain ⟨k, k1, k2, k3, k4, k5, k6, -, -, -, -, k11⟩ := h.2.2.2.2.1 y y1 y2
    have kq := h.2.2.2.2.2.2.2.1 y y1 y2
    have ek : (k : Int) = l1.toInt := by rw [← k1, y3]
    have n4 : (mI v (169 * q + y) 4).toNatClampNeg = k := n_of k1
    have ix : (160 * u.1 55 + l1).toNatClampNeg = 160 * s + k := by
      have := (ix_s e160 (by omega) (by omega) h55 hs hl'.1 (by omega)).2
      show (160 * u.1 55 + l1).toInt.toNat = 160 * s + k
      omega
    -- the reference: the row
    have go : ∀ {Y : Option (Int32 × RSt)} {Q : Int32 → RSt → Prop}, pp Y Q → pp Y Q := fun h => h
    have refR : ∀ {Q : Int32 → RSt → Prop}, pp (if l2 = 0 then (rd ((sI u 9 0).2.2.1 10) 320 ((160 * ((sI u 9 0).1 55)) + l1) fun v_5 => some (v_5, sI u 9 0)) else (if l2 = 1 then (rd ((sI u 9 0).2.2.1 11) 320 ((160 * ((sI u 9 0).1 55)) + l1) fun v_8 => some (v_8, sI u 9 0)) else (if l2 = 2 then (rd ((sI u 9 0).2.2.1 12) 320 ((160 * ((sI u 9 0).1 55)) + l1) fun v_11 => some (v_11, sI u 9 0)) else (if l2 = 3 then (rd ((sI u 9 0).2.2.1 13) 320 ((160 * ((sI u 9 0).1 55)) + l1) fun v_14 => if v_14 = (0 : Int32) then (some (0, sI u 9 0)) else (some (1, sI u 9 0))) else (if l2 = 4 then (rd ((sI u 9 0).2.2.1 14) 320 ((160 * ((sI u 9 0).1 55)) + l1) fun v_18 => some (v_18, sI u 9 0)) else (pu (sI (sI u 9 0) 9 2) fun u_20 => some (0, u_20))))))) Q → pp (bn (F_hasVariable M l1 u) fun r_2 u_1 => if r_2 = (0 : Int32) then (some (0, u_1)) else (if l2 = 0 then (rd (u_1.2.2.1 10) 320 ((160 * (u_1.1 55)) + l1) fun v_5 => some (v_5, u_1)) else (if l2 = 1 then (rd (u_1.2.2.1 11) 320 ((160 * (u_1.1 55)) + l1) fun v_8 => some (v_8, u_1)) else (if l2 = 2 then (rd (u_1.2.2.1 12) 320 ((160 * (u_1.1 55)) + l1) fun v_11 => some (v_11, u_1)) else (if l2 = 3 then (rd (u_1.2.2.1 13) 320 ((160 * (u_1.1 55)) + l1) fun v_14 => if v_14 = (0 : Int32) then (some (0, u_1)) else (some (1, u_1))) else (if l2 = 4 then (rd (u_1.2.2.1 14) 320 ((160 * (u_1.1 55)) + l1) fun v_18 => some (v_18, u_1)) else (pu (sI u_1 9 2) fun u_20 => some (0, u_20)))))))) Q := by
      intro Q hQ
      refine pp_bn (pp_m ref (fun r x hx => ?_))
      rcases hx with ⟨-, e1, e2⟩ | ⟨n, -⟩
      · rw [e1, e2, if_neg (by decide)]
        exact hQ
      · exact absurd hl' n
    have rowv : ∀ (c : Nat) (z : Int32), u.2.2.1 c (160 * s + k) = z → (sI u 9 0).2.2.1 c (160 * ((sI u 9 0).1 55) + l1).toNatClampNeg = z := fun c z hz => by
      show u.2.2.1 c (160 * u.1 55 + l1).toNatClampNeg = z
      rw [ix]
      exact hz
    refine pq_if (fun q0 => pq_some (refR ?_)) (fun q0 => pq_if (fun q1 => pq_some (refR ?_)) (fun q1 => pq_if (fun q2 => pq_some (refR ?_)) (fun q2 => pq_if (fun q3 => pq_if (fun q8 => pq_some (refR ?_)) (fun q8 => pq_some (refR ?_))) (fun q3 => pq_if (fun q4 => ?_) (fun q4 => pq_some (refR ?_))))))
    · rw [if_pos q0]
      exact pp_rd (pp_some (Or.inr (Or.inr ⟨by rw [rowv 10 _ k3], rfl⟩)))
    · rw [if_neg q0, if_pos q1]
      exact pp_rd (pp_some (Or.inr (Or.inr ⟨by rw [rowv 11 _ k4], rfl⟩)))
    · rw [if_neg q0, if_neg q1, if_pos q2]
      exact pp_rd (pp_some (Or.inr (Or.inr ⟨by rw [rowv 12 _ k5], rfl⟩)))
    · rw [if_neg q0, if_neg q1, if_neg q2, if_pos q3]
      refine pp_rd ?_
      rw [rowv 13 _ k6, if_pos q8]
      exact pp_some (Or.inr (Or.inr ⟨rfl, rfl⟩))
    · rw [if_neg q0, if_neg q1, if_neg q2, if_pos q3]
      refine pp_rd ?_
      rw [rowv 13 _ k6, if_neg q8]
      exact pp_some (Or.inr (Or.inr ⟨rfl, rfl⟩))
    · have at14 : pp (bn (F_hasVariable M l1 u) fun r_2 u_1 => if r_2 = (0 : Int32) then (some (0, u_1)) else (if l2 = 0 then (rd (u_1.2.2.1 10) 320 ((160 * (u_1.1 55)) + l1) fun v_5 => some (v_5, u_1)) else (if l2 = 1 then (rd (u_1.2.2.1 11) 320 ((160 * (u_1.1 55)) + l1) fun v_8 => some (v_8, u_1)) else (if l2 = 2 then (rd (u_1.2.2.1 12) 320 ((160 * (u_1.1 55)) + l1) fun v_11 => some (v_11, u_1)) else (if l2 = 3 then (rd (u_1.2.2.1 13) 320 ((160 * (u_1.1 55)) + l1) fun v_14 => if v_14 = (0 : Int32) then (some (0, u_1)) else (some (1, u_1))) else (if l2 = 4 then (rd (u_1.2.2.1 14) 320 ((160 * (u_1.1 55)) + l1) fun v_18 => some (v_18, u_1)) else (pu (sI u_1 9 2) fun u_20 => some (0, u_20)))))))) (fun r x => r = u.2.2.1 14 (160 * s + k) ∧ x.1 9 = 0) := by
        refine refR ?_
        rw [if_neg q0, if_neg q1, if_neg q2, if_neg q3, if_pos q4]
        exact pp_rd (pp_some ⟨rowv 14 _ rfl, rfl⟩)
      unfold F_X4_isPlaced B_X4_isPlaced_0 B_X4_isPlaced_23
      rw [if_pos y2]
      obtain ⟨-, -, kq⟩ := kq
      rw [n4] at kq
      rcases kq with ⟨hw, a14, -⟩ | ⟨hw, -, -, a14, -⟩
      · have n2 : ¬ mI v (169 * q + y) 6 = 2 := fun z => by rw [z] at hw; exact absurd hw (by decide)
        have n3 : ¬ mI v (169 * q + y) 6 = 3 := fun z => by rw [z] at hw; exact absurd hw (by decide)
        rw [if_neg n2, if_neg n3]
        refine pq_bc (pq_some ?_)
        rw [if_pos rfl]
        exact pq_some (pp_m at14 (fun r x hx => Or.inr (Or.inr ⟨by rw [hx.1, a14], hx.2⟩)))
      · have fin : pq (bc (some ((1 : Int32), v)) fun r_16 u_15 => if r_16 = (0 : Int32) then (some ((.inr (-1) : Sum Nat Int32), u_15)) else (some (.inr (mI u_15 (169 * q + y) 9), u_15))) (fun y w => pp (bn (F_hasVariable M l1 u) fun r_2 u_1 => if r_2 = (0 : Int32) then (some (0, u_1)) else (if l2 = 0 then (rd (u_1.2.2.1 10) 320 ((160 * (u_1.1 55)) + l1) fun v_5 => some (v_5, u_1)) else (if l2 = 1 then (rd (u_1.2.2.1 11) 320 ((160 * (u_1.1 55)) + l1) fun v_8 => some (v_8, u_1)) else (if l2 = 2 then (rd (u_1.2.2.1 12) 320 ((160 * (u_1.1 55)) + l1) fun v_11 => some (v_11, u_1)) else (if l2 = 3 then (rd (u_1.2.2.1 13) 320 ((160 * (u_1.1 55)) + l1) fun v_14 => if v_14 = (0 : Int32) then (some (0, u_1)) else (some (1, u_1))) else (if l2 = 4 then (rd (u_1.2.2.1 14) 320 ((160 * (u_1.1 55)) + l1) fun v_18 => some (v_18, u_1)) else (pu (sI u_1 9 2) fun u_20 => some (0, u_20)))))))) (fun r x => (y = .inl 3 ∧ x.1 9 = 1) ∨ (y = .inl 1 ∧ x.1 9 = 2) ∨ (y = .inr r ∧ x.1 9 = 0))) := by
          refine pq_bc (pq_some ?_)
          rw [if_neg (by decide)]
          exact pq_some (pp_m at14 (fun r x hx => Or.inr (Or.inr ⟨by rw [hx.1, a14], hx.2⟩)))
        by_cases h2 : mI v (169 * q + y) 6 = 2
        · rw [if_pos h2]
          exact fin
        · rw [if_neg h2, if_pos (hw.resolve_left h2)]
          exact fin
    · rw [if_neg q0, if_neg q1, if_neg q2, if_neg q3, if_neg q4]
      exact pp_pu (pp_some (Or.inr (Or.inl ⟨rfl, rfl⟩)))
  · rw [hr, if_pos rfl]
    refine pq_some (pp_bn (pp_m ref (fun r x hx => ?_)))
    rcases hx with ⟨z, -⟩ | ⟨-, e1, e2⟩
    · exact absurd (by rw [c1]; exact z) n
    · rw [e1, e2, if_pos rfl]
      exact pp_some (Or.inl ⟨rfl, rfl⟩)
theorem variable_same {y : Sum Nat Int32} (h : TBM v u q s T) (hq : cR v 0 = q) (h55 : (u.1 55).toInt = (s : Int)) (hs : s < 2) (h8 : F_variable M l1 l2 u = some (r, x)) (h9 : F_X11_variable N l1 l2 v = some (y, w)) : (y = .inl 3 ∧ x.1 9 = 1) ∨ (y = .inl 1 ∧ x.1 9 = 2) ∨ (y = .inr r ∧ x.1 9 = 0) := var_T h hq h55 hs _ _ h9 _ _ h8
end VarS
