/-! Instances, made. -/
section RInst2
variable {u v w : RSt} {T N k j : Nat} {o o' : Int} {x b l1 l2 l3 l4 l5 l6 : Int32} {l7 : Int64}
theorem IVQ.on (h : IVQ v T o) (ht : ¬ isT (tyR v)) : LFT v (sI v 65 (v.1 65 + 1)) T ∧ kP (sI v 65 (v.1 65 + 1)) = kP v + 1 ∧ IVQ (sI v 65 (v.1 65 + 1)) T o := by
  obtain ⟨a, b⟩ := h.1.on ht
  exact ⟨a, b, h.lf a (fun z => h.2.2.1 z)⟩
/-- the putting of an instance -/
theorem e_ins {y : RSt} (hi : IVQ u T o) (ha : act u) (hb : 0 ≤ b.toInt ∧ b.toInt < 8 ∧ b.toInt < (u.2.2.1 36 (toN u)).toInt) (hT : TLD u v 1 (u.2.2.1 42 (toN u))) (h6 : (u.1 62).toInt < 160) (h42 : (u.2.2.1 42 (toN u)).toInt < 24) (hy : INL v y (160 * toN u + (u.2.2.1 28 (24 * toN u + b.toInt.toNat)).toInt.toNat) (u.2.2.1 29 (24 * toN u + b.toInt.toNat)).toInt.toNat 0) (w1 : w.1 = fun k => if k = 63 then y.1 63 + y.2.2.1 31 (24 * toN u + b.toInt.toNat) else y.1 k) (w3 : ∀ k, k ∉ [38, 39, 42] → w.2.2.1 k = y.2.2.1 k) (w38 : w.2.2.1 38 = upd (y.2.2.1 38) (24 * toN u + (u.2.2.1 42 (toN u)).toInt.toNat) (24 * u.1 56 + b)) (w39 : w.2.2.1 39 = upd (y.2.2.1 39) (24 * toN u + (u.2.2.1 42 (toN u)).toInt.toNat) (y.1 63)) (w42 : w.2.2.1 42 = upd (y.2.2.1 42) (toN u) (u.2.2.1 42 (toN u) + 1)) (w4 : ∀ k, k ∉ [40, 41] → w.2.2.2 k = y.2.2.2 k) : IVQ w T o ∧ FRI u w ∧ w.1 65 = u.1 65 ∧ w.2.2.1 2 = u.2.2.1 2 := by
  obtain ⟨i1, i2, i3, i4⟩ := id hi
  obtain ⟨p1, p2, p3⟩ := i4 ha
  have h61 : 0 ≤ (u.1 61).toInt ∧ (u.1 61).toInt < 180 := ⟨p2.1, by have := p2.2.1; omega⟩
  obtain ⟨nv, -, -⟩ := p2.tld hT h6
  have tv := hT.tb0 i2 h61
  have etv := hT.to
  obtain ⟨y1, y2, y4, y3, y5, y6, y7⟩ := hy
  have wk : ∀ k, k ≠ 63 → w.1 k = v.1 k := fun k hk => by rw [w1]; show (if k = 63 then _ else y.1 k) = _; rw [if_neg hk, y1]
  have wt : ∀ k, k ∉ [38, 39, 42, 64] → w.2.2.1 k = v.2.2.1 k := fun k hk => by
    simp only [List.mem_cons, List.not_mem_nil, or_false, not_or] at hk
    rw [w3 k (by simp only [List.mem_cons, List.not_mem_nil, or_false, not_or]; exact ⟨hk.1, hk.2.1, hk.2.2.1⟩), y3 k hk.2.2.2]
  have wu : ∀ k, k ∉ [38, 39, 42, 59, 60, 64] → w.2.2.1 k = u.2.2.1 k := fun k hk => by
    simp only [List.mem_cons, List.not_mem_nil, or_false, not_or] at hk
    rw [wt k (by simp only [List.mem_cons, List.not_mem_nil, or_false, not_or]; exact ⟨hk.1, hk.2.1, hk.2.2.1, hk.2.2.2.2.2⟩), hT.2.2.2.2.1 k (by simp only [List.mem_cons, List.not_mem_nil, or_false, not_or]; exact ⟨hk.2.2.2.1, hk.2.2.2.2.1⟩)]
  have e56 : w.1 56 = u.1 56 := by rw [wk 56 (by decide), hT.2.1 56 (by decide)]
  have et : toN w = toN u := by unfold toN; rw [e56]
  have e65 : w.1 65 = u.1 65 := by rw [wk 65 (by decide), hT.2.1 65 (by decide)]
  have e2 : w.2.2.1 2 = u.2.2.1 2 := wu 2 (by decide)
  have ek : kP w = kP u := by unfold kP; rw [e65]
  have v38 : y.2.2.1 38 = u.2.2.1 38 := by rw [y3 38 (by decide), hT.2.2.2.2.1 38 (by decide)]
  have v39 : y.2.2.1 39 = u.2.2.1 39 := by rw [y3 39 (by decide), hT.2.2.2.2.1 39 (by decide)]
  have v42 : y.2.2.1 42 = u.2.2.1 42 := by rw [y3 42 (by decide), hT.2.2.2.2.1 42 (by decide)]
  have v63 : y.1 63 = u.1 63 := by rw [y1, hT.2.1 63 (by decide)]
  have v31 : y.2.2.1 31 = u.2.2.1 31 := by rw [y3 31 (by decide), hT.2.2.2.2.1 31 (by decide)]
  rw [v38] at w38
  rw [v39, v63] at w39
  rw [v42] at w42
  rw [v63, v31] at w1
  obtain ⟨t1, t2, t3, t4, t5, t6, t7, t8, t9, t10⟩ := id i2
  have tn : (toN u : Int) = (u.1 56).toInt := by show ((u.1 56).toInt.toNat : Int) = _; omega
  have c42 := (t5 (toN u)).2.2.2.2.1
  have f1 : (1 : Int32).toInt = 1 := by decide
  have e24 : (24 : Int32).toInt = 24 := by decide
  have ec : (u.2.2.1 42 (toN u) + 1).toInt = (u.2.2.1 42 (toN u)).toInt + 1 := by rw [tI_add (by rw [f1]; omega) (by rw [f1]; omega), f1]
  have em : (24 * u.1 56).toInt = 24 * (u.1 56).toInt := by rw [tI_mul (by rw [e24]; omega) (by rw [e24]; omega), e24]
  have eb : (24 * u.1 56 + b).toInt = 24 * toN u + b.toInt := by rw [tI_add (by omega) (by omega), em, tn]
  have n42 : w.2.2.1 42 (toN u) = u.2.2.1 42 (toN u) + 1 := by rw [w42]; exact if_pos rfl
  obtain ⟨q1, q2, q3, q4, q5, ⟨q6, q6'⟩, q7⟩ := id p2
  have c63 : 0 ≤ (u.1 63).toInt ∧ (u.1 63).toInt ≤ 2000 := by
    have := q6 0 (by omega); have := q6 1 (by omega); have := q6 2 (by omega); have := q6 3 (by omega); have := q6 4 (by omega)
    omega
  have c31 := t6 (24 * toN u + b.toInt.toNat)
  have e63 : (u.1 63 + u.2.2.1 31 (24 * toN u + b.toInt.toNat)).toInt = (u.1 63).toInt + (u.2.2.1 31 (24 * toN u + b.toInt.toNat)).toInt := tI_add (by omega) (by omega)
  have s63 : w.1 63 = u.1 63 + u.2.2.1 31 (24 * toN u + b.toInt.toNat) := by rw [w1]; show (if (63 : Nat) = 63 then _ else _) = _; rw [if_pos rfl]
  have v64 : v.2.2.1 64 = u.2.2.1 64 := hT.2.2.2.2.1 64 (by decide)
  have v21 : v.2.2.1 21 = u.2.2.1 21 := hT.2.2.2.2.1 21 (by decide)
  have w64 : w.2.2.1 64 = y.2.2.1 64 := w3 64 (by decide)
  obtain ⟨bl1, bl2⟩ := q7 b.toInt.toNat (by omega)
  have ain : AIN u w b := ⟨et, wu, w38, w42⟩
  refine ⟨⟨?_, ⟨?_, ?_, ?_, ?_, ?_, ?_, ?_, ?_, ?_, ?_⟩, fun _ => ?_, fun _ => ⟨?_, ⟨?_, ?_, ?_, ?_, ?_, ⟨?_, ?_⟩, ?_⟩, ?_⟩⟩, ⟨?_, ?_, ?_, ?_, fun q => q.of (wu 11 (by decide)) (wu 12 (by decide)), fun q => by rw [wu 54 (by decide)]; exact q⟩, e65, e2⟩
  · obtain ⟨b1, b2, b3, b4⟩ := i1
    exact ⟨b1, by rw [e2]; exact b2, by omega, by omega⟩
  · unfold VOK
    rw [wu 10 (by decide), wu 11 (by decide), wu 12 (by decide), wu 13 (by decide), wu 15 (by decide)]
    exact t1
  · unfold SLT
    rw [wu 20 (by decide), wu 21 (by decide), wu 23 (by decide)]
    exact t2
  · unfold PRT
    rw [wu 28 (by decide), wu 29 (by decide), wu 30 (by decide), wu 33 (by decide)]
    exact t3
  · intro i
    rw [w38, w39]
    unfold upd
    by_cases c : i = 24 * toN u + (u.2.2.1 42 (toN u)).toInt.toNat
    · rw [if_pos c, if_pos c]
      exact ⟨by omega, by omega, c63.1, c63.2⟩
    · rw [if_neg c, if_neg c]
      exact t4 i
  · intro i
    rw [wu 19 (by decide), wu 27 (by decide), wu 36 (by decide), wu 37 (by decide), wu 48 (by decide)]
    refine ⟨(t5 i).1, (t5 i).2.1, (t5 i).2.2.1, (t5 i).2.2.2.1, ?_, (t5 i).2.2.2.2.2⟩
    by_cases c : i = toN u
    · subst c
      rw [n42]
      omega
    · rw [w42]
      unfold upd
      rw [if_neg c]
      exact (t5 i).2.2.2.2.1
  · rw [wu 31 (by decide)]; exact t6
  · rw [wk 61 (by decide)]; exact tv.2.2.2.2.2.2.1
  · rw [wk 72 (by decide)]; exact tv.2.2.2.2.2.2.2.1
  · rw [e56]; exact t9
  · rw [e56]; exact t10
  · rw [opn_e (by rw [wk 66 (by decide), hT.2.1 66 (by decide)] : w.1 66 = u.1 66)]
    exact i3 ha.2
  · refine p1.tl hT h61 ⟨by rw [et, etv], wk 61 (by decide), wt 59 (by decide), wt 60 (by decide)⟩ ?_ ?_ ?_ ⟨c42.1, fun z => absurd z (by decide), fun _ => ⟨h42, ?_⟩, fun z => absurd z (by decide), fun z => absurd z (by decide), fun z => absurd z (by decide)⟩
    · rw [etv, n42, hT.2.2.2.2.1 42 (by decide)]; omega
    · rw [wt 37 (by decide)]; exact Int.le_refl _
    · rw [wt 36 (by decide)]; exact Int.le_refl _
    · rw [et, n42]; omega
  · rw [wk 61 (by decide)]; exact nv.1
  · rw [wk 61 (by decide), wk 62 (by decide)]; exact nv.2.1
  · rw [wk 62 (by decide)]; exact nv.2.2.1
  · have := nv.2.2.2.1
    rw [etv] at this
    rw [et, wt 19 (by decide), wk 62 (by decide)]; exact this
  · have := nv.2.2.2.2.1
    rw [etv] at this
    rw [et, wt 27 (by decide), wk 62 (by decide)]; exact this
  · intro k hk
    rw [w64]
    exact ⟨(y5 k hk).1, y7 rfl k hk⟩
  · rw [w64, y6, s63, e63, v64, bl2, q6', ssz_eq (u := u) (w := v) (fun i _ => by rw [v21])]
  · unfold BLK
    rw [et, wu 36 (by decide), wu 28 (by decide), wu 29 (by decide), wu 27 (by decide), wu 31 (by decide)]
    intro c hc
    obtain ⟨g1, g2⟩ := q7 c hc
    exact ⟨g1, by rw [g2]; exact (ssz_eq (fun i _ => by rw [wu 21 (by decide)])).symm⟩
  · exact p3.ain ain i2 hb h42 (by omega)
  · intro k hk
    have h63 : k ≠ 63 := fun z => hk (by rw [z]; unfold zi; decide)
    rw [wk k h63, hT.fri.1 k hk]
  · intro q
    rw [wk 67 (by decide), hT.2.1 67 (by decide)]
    exact q
  · intro k j hk hj
    by_cases c : k = 38 ∨ k = 39 ∨ k = 42
    · rcases c with rfl | rfl | rfl
      · have q : j / 24 ≠ toN u := hj.elim (fun z => absurd z (by decide)) id
        rw [w38]
        exact if_neg (by omega)
      · have q : j / 24 ≠ toN u := hj.elim (fun z => absurd z (by decide)) id
        rw [w39]
        exact if_neg (by omega)
      · have q : j / 1 ≠ toN u := hj.elim (fun z => absurd z (by decide)) id
        rw [Nat.div_one] at q
        rw [w42]
        exact if_neg q
    · rw [wu k ?_]
      intro z
      simp only [List.mem_cons, List.not_mem_nil, or_false] at z
      have : k = 59 ∨ k = 60 ∨ k = 64 := by omega
      rcases this with rfl | rfl | rfl
      · exact hk (by unfold zf; decide)
      · exact hk (by unfold zf; decide)
      · exact hk (by unfold zf; decide)
  · intro k hk
    rw [w4 k (fun z => hk ?_), y4, hT.fri.2.2.2.1 k hk]
    unfold zl
    simp only [List.mem_cons, List.not_mem_nil, or_false] at z ⊢
    omega
end RInst2
