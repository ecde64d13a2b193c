/-! Statements: each follows the derivation. -/
section PStat
variable {N n i j d L : Nat} {u0 u : CSt} {ro : Nat → Nat → Int32 → Int32 → CSt → Option (Sum Nat Int32 × CSt)} {B B' S : Nat → Nat → Prop}
theorem PR.x13 {v : Int32} {k : Nat} (h : PR u0 n u i) (hk : k = 13 ∨ k = 14 ∨ k = 15) : PR u0 n (xI u k v) i := by
  have hb := i32_b v
  rcases hk with e | e | e <;> subst e
  · exact h.fr (W := [13]) (UC.xI (k := 13) h.uc (show (-2147483648 : Int) ≤ v.toInt by omega) (show v.toInt ≤ (2147483647 : Int) by omega)) (FR.xI FR.rf (by decide)) (by decide)
  · exact h.fr (W := [14]) (UC.xI (k := 14) h.uc (show (-2147483648 : Int) ≤ v.toInt by omega) (show v.toInt ≤ (2147483647 : Int) by omega)) (FR.xI FR.rf (by decide)) (by decide)
  · exact h.fr (W := [15]) (UC.xI (k := 15) h.uc (show (-2147483648 : Int) ≤ v.toInt by omega) (show v.toInt ≤ (2147483647 : Int) by omega)) (FR.xI FR.rf (by decide)) (by decide)
theorem p_setPlain {l1 : Nat} {k : Nat} (hb : TB u0 n) (hN : 5000000000 ≤ N) (hL : L ≤ 25) (h : PR u0 n u i) (ht : tyF u0 i = 61) (hE : gX u0 L (i + 1) k) : wq (F_X3_setPlain N l1 u) (PJ u0 n k) := by
  unfold F_X3_setPlain B_X3_setPlain_0
  refine wq_bcR (v_X9_here hN h.uc) (fun r _ => ?_)
  refine pnx hb h (nE ht (by decide) (by decide) (by decide)) (fun _ w _ h1 => ?_)
  refine pbt (p_E hb hN hL h1 hE) (fun r2 w2 h2 => ?_)
  refine wq_bcR (v_X8_isTooWide hN h2.uc) (fun r3 _ => ?_)
  exact wq_if.mpr ⟨fun _ => pen h2, fun _ => prf (α := Unit) hN h2.uc⟩
theorem p_setBit {l1 : Nat} {l2 l3 : Int32} {k : Nat} (hb : TB u0 n) (hN : 5000000000 ≤ N) (hL : L ≤ 25) (h : PR u0 n u i) (hE : tyF u0 i = 61 → gX u0 L (i + 1) k) : wq (F_X3_setBit N l1 l2 l3 u) (PJ u0 n k) := by
  unfold F_X3_setBit B_X3_setBit_0
  refine pis hb h (fun c => ?_) (fun c => ?_)
  · unfold B_X3_setBit_27
    refine pnx hb h (nE c (by decide) (by decide) (by decide)) (fun _ w _ h1 => ?_)
    refine pbt (p_E hb hN hL h1 (hE c)) (fun r2 w2 h2 => ?_)
    have e75 : ∀ w : CSt, PR u0 n w k → wq (B_X3_setBit_75 N l1 l2 l3 w) (PJ u0 n k) := by
      intro w hw
      unfold B_X3_setBit_75
      refine pok (hw.uc.r 2) ?_
      refine pvc hw (v_X6_step hN hw.uc (nImg (by unfold isImg; decide))) (by decide) (fun r w7 h7 _ => ?_)
      exact pvc h7 (v_X3_put hN h7.uc) (by decide) (fun r w8 h8 _ => pen h8)
    refine wq_if.mpr ⟨fun _ => ?_, fun _ => pok (h2.uc.r 2) ?_⟩
    · exact pvc h2 (v_X8_get hN h2.uc (Or.inl (by decide))) (by decide) (fun _ w4 h4 _ => e75 w4 h4)
    · exact pvc h2 (v_X6_step hN h2.uc (nImg (by unfold isImg; decide))) (by decide) (fun r w7 h7 _ => e75 w7 h7)
  · refine wq_bcR (v_X9_here hN h.uc) (fun r _ => ?_)
    exact prf (α := Unit) hN h.uc
theorem p_change {l1 : Nat} {l2 : Int32} {k : Nat} (hb : TB u0 n) (hN : 5000000000 ≤ N) (hL : L ≤ 25) (h : PR u0 n u i) (ht : ¬ tyF u0 i = 61) (hE : isAsg (tyF u0 i) ∧ gX u0 L (i + 1) k ∨ (tyF u0 i = 11051 ∨ tyF u0 i = 11565) ∧ k = i + 1) : wq (F_X3_change N l1 l2 u) (PJ u0 n k) := by
  have hn : ¬ isEnd (tyF u0 i) := by
    rcases hE with q | ⟨q | q, -⟩
    · exact q.1.ne
    · exact nE q (by decide) (by decide) (by decide)
    · exact nE q (by decide) (by decide) (by decide)
  unfold F_X3_change B_X3_change_0
  refine pty hb h ?_
  refine wq_bcR (v_X9_here hN h.uc) (fun r _ => ?_)
  have e50 : ∀ w : CSt, PR u0 n w i → wq (B_X3_change_50 N l1 (tyF u0 i) r w) (PJ u0 n k) := by
    intro w hw
    unfold B_X3_change_50
    refine pnx hb hw hn (fun _ w1 _ h1 => ?_)
    have e71 : k = i + 1 → wq (B_X3_change_71 N l1 (tyF u0 i) r w1) (PJ u0 n k) := by
      intro e
      subst e
      unfold B_X3_change_71
      refine pok (h1.uc.r 2) ?_
      refine pvc h1 (v_X6_constant hN h1.uc (Or.inl (by decide))) (by decide) (fun r w4 h4 _ => ?_)
      have e98 : ∀ s1 l4 : Int32, wq (B_X3_change_98 N l1 l4 s1 w4) (PJ u0 n (i + 1)) := by
        intro s1 l4
        unfold B_X3_change_98
        exact pvc h4 (v_X8_combine hN h4.uc) (by decide) (fun r w5 h5 _ => pen h5)
      exact wq_if.mpr ⟨fun _ => e98 _ _, fun _ => e98 _ _⟩
    have a1 : F_X9_assigned 0 11051 = some (-1) := by decide
    have a2 : F_X9_assigned 0 11565 = some (-1) := by decide
    refine wq_if.mpr ⟨fun c => ?_, fun c => ?_⟩
    · rcases hE with ⟨q, -⟩ | ⟨-, q⟩
      · rcases q with q | ⟨s, hs, hs1⟩
        · exact absurd q ht
        · rw [c, a1] at hs; cases hs; exact absurd rfl hs1
      · exact e71 q
    refine wq_if.mpr ⟨fun c2 => ?_, fun c2 => ?_⟩
    · rcases hE with ⟨q, -⟩ | ⟨-, q⟩
      · rcases q with q | ⟨s, hs, hs1⟩
        · exact absurd q ht
        · rw [c2, a2] at hs; cases hs; exact absurd rfl hs1
      · exact e71 q
    rcases hE with ⟨-, q⟩ | ⟨q, -⟩
    · refine pbt (p_E hb hN hL h1 q) (fun r2 w2 h2 => ?_)
      obtain ⟨s, hs, -⟩ := g_assigned (N := N) (tyF u0 i)
      refine wq_pb.mpr ⟨s, hs, ?_⟩
      exact pvc h2 (v_X8_combine hN h2.uc) (by decide) (fun r w5 h5 _ => pen h5)
    · rcases q with q | q
      · exact absurd q c
      · exact absurd q c2
  refine wq_if.mpr ⟨fun _ => ?_, fun _ => pok (h.uc.r 2) ?_⟩
  · exact pvc h (v_X8_get hN h.uc (Or.inl (by decide))) (by decide) (fun _ w4 h4 _ => e50 w4 h4)
  · exact pvc h (v_X6_step hN h.uc (nImg (by unfold isImg; decide))) (by decide) (fun r w7 h7 _ => e50 w7 h7)
theorem p_assignment {l1 : Int32} (hb : TB u0 n) (hN : 5000000000 ≤ N) (hL : L ≤ 24) (h : PR u0 n u i) (t0 : tyF u0 i = 128) (t1 : ¬ tyF u0 (i + 1) = 40) (hD : gNamed u0 (gX u0 (L + 1)) (gX u0 L) i j) : wq (F_X3_assignment N l1 u) (PJ u0 n j) := by
  have hi := h.lt hb (nE t0 (by decide) (by decide) (by decide))
  rcases hD with ⟨q, -⟩ | ⟨-, k, m, hI, hB, hD⟩
  · exact absurd q t1
  unfold F_X3_assignment B_X3_assignment_0
  refine pbt (p_placeName hb hN h hi) (fun r w hw => ?_)
  obtain ⟨e, hr, r1, r0⟩ := hw
  subst e
  refine pok hr ?_
  refine pnx hb h (nE t0 (by decide) (by decide) (by decide)) (fun _ w3 e3 h3 => ?_)
  have em : mI w3 r 8 = mI w r 8 := by show w3.2.2.2.2.2.2.2.2.1 r 8 = _; rw [e3]
  have fin : ∀ (p : Nat) (w : CSt), PR u0 n w p → tyF u0 p = 59 → j = p + 1 → wq (B_X3_assignment_104 N w) (PJ u0 n j) := by
    intro p w hw t e
    unfold B_X3_assignment_104
    rw [e]
    exact pnx hb hw (nE t (by decide) (by decide) (by decide)) (fun _ w2 _ h2 => pen h2)
  -- where the expression, or the sign alone, ends
  have hE : ∃ p, tyF u0 p = 59 ∧ j = p + 1 ∧ (isAsg (tyF u0 m) ∧ gX u0 (L + 1) (m + 1) p ∨ ¬ isAsg (tyF u0 m) ∧ (tyF u0 m = 11051 ∨ tyF u0 m = 11565) ∧ p = m + 1) := by
    rcases hD with ⟨q1, p, q2, q3, q4⟩ | ⟨q1, q2, q3, q4⟩
    · exact ⟨p, q3, q4, Or.inl ⟨q1, q2⟩⟩
    · exact ⟨m + 1, q3, q4, Or.inr ⟨q1, q2, rfl⟩⟩
  obtain ⟨p, tp, jp, hE⟩ := hE
  have tail : ∀ w4 : CSt, PR u0 n w4 k → wq (B_X3_assignment_32 N l1 r w4) (PJ u0 n j) := by
    intro w4 h4
    unfold B_X3_assignment_32
    refine pis hb h4 (fun c => ?_) (fun c => ?_)
    · rcases hB with ⟨q, -⟩ | ⟨q, q1, q2⟩
      · exact absurd c q
      · have km : (0 : Int) ≤ (mI w4 r 5).toInt ∧ (mI w4 r 5).toInt ≤ 4 := h4.uc.m r 5
        subst q2
        refine pbt (p_bit hb hN h4 km.1 km.2 q q1) (fun r2 w5 h5 => ?_)
        refine pbt (p_setBit (k := p) hb hN (by omega : L + 1 ≤ 25) h5 (fun c61 => ?_)) (fun r3 w6 h6 => fin p w6 h6 tp jp)
        rcases hE with ⟨-, q⟩ | ⟨q, -⟩
        · exact q
        · exact absurd (Or.inl c61) q
    · have emk : m = k := by
        rcases hB with ⟨-, q⟩ | ⟨q, -⟩
        · exact q
        · exact absurd q c
      subst emk
      refine pis hb h4 (fun c61 => ?_) (fun c61 => ?_)
      · have q : gX u0 (L + 1) (m + 1) p := by
          rcases hE with ⟨-, q⟩ | ⟨q, -⟩
          · exact q
          · exact absurd (Or.inl c61) q
        refine pbt (p_setPlain hb hN (by omega : L + 1 ≤ 25) h4 c61 q) (fun r2 w5 h5 => ?_)
        exact pvc h5 (v_X3_put hN h5.uc) (by decide) (fun r w8 h8 _ => fin p w8 h8 tp jp)
      · refine pbt (p_change (k := p) hb hN (by omega : L + 1 ≤ 25) h4 c61 ?_) (fun r2 w5 h5 => ?_)
        · rcases hE with q | ⟨-, q⟩
          · exact Or.inl q
          · exact Or.inr q
        · exact pvc h5 (v_X3_put hN h5.uc) (by decide) (fun r w8 h8 _ => fin p w8 h8 tp jp)
  refine wq_if.mpr ⟨fun c => ?_, fun c => ?_⟩
  · rcases hI with ⟨q, e⟩ | ⟨q, -⟩
    · subst e; exact tail w3 h3
    · have := r1 q
      rw [← em, c] at this
      exact absurd this (by decide)
  · rcases hI with ⟨q, e⟩ | ⟨q, k', q1, q2, q3⟩
    · have := r0 q
      rw [← em] at this
      exact absurd this c
    · subst q3
      exact pbt (p_I hb hN (by omega : L ≤ 25) h3 q q1 q2) (fun _ w5 h5 => tail w5 h5)
theorem p_instanceCall {l1 : Int32} (hb : TB u0 n) (hN : 5000000000 ≤ N) (hL : L ≤ 24) (h : PR u0 n u i) (t0 : tyF u0 i = 128) (t1 : tyF u0 (i + 1) = 40) (hD : gNamed u0 (gX u0 (L + 1)) (gX u0 L) i j) : wq (F_X3_instanceCall N l1 u) (PJ u0 n j) := by
  rcases hD with ⟨-, k, hA, tk, e⟩ | ⟨q, -⟩
  · unfold F_X3_instanceCall B_X3_instanceCall_0
    refine wq_bcR (v_X8_known hN h.uc) (fun r hr => pok hr ?_)
    refine wq_if.mpr ⟨fun _ => ?_, fun _ => prf (α := Unit) hN h.uc⟩
    unfold B_X3_instanceCall_25
    refine pok (h.uc.r 2) ?_
    refine pvc h (v_X6_cost hN h.uc) (by decide) (fun _ w h1 _ => pok (h1.uc.r 2) ?_)
    refine wq_bcR (v_X6_name hN h1.uc (h1.uc.r 2)) (fun r3 hr3 => pok hr3 ?_)
    refine pbt (p_A hb hN (by omega : L ≤ 25) h1 (nE t0 (by decide) (by decide) (by decide)) hA) (fun _ w5 h5 => pok (h5.uc.r 2) ?_)
    refine pvc h5 (v_X6_step hN h5.uc (nImg (by unfold isImg; decide))) (by decide) (fun r w7 h7 _ => ?_)
    rw [e]
    exact pnx hb h7 (nE tk (by decide) (by decide) (by decide)) (fun _ w2 _ h2 => pen h2)
  · exact absurd t1 q
theorem p_returned {l1 : Int32} (hb : TB u0 n) (hN : 5000000000 ≤ N) (hL : L ≤ 25) (h : PR u0 n u i) (t0 : tyF u0 i = 27) (hD : gRet u0 (gX u0 L) i j) : wq (F_X3_returned N l1 u) (PJ u0 n j) := by
  have hi := h.lt hb (nE t0 (by decide) (by decide) (by decide))
  unfold F_X3_returned B_X3_returned_0
  refine pah (m := 1) hb h (by decide) (by omega) ?_
  have e147 : ∀ (p : Nat) (w : CSt), PR u0 n w p → tyF u0 p = 59 → j = p + 1 → wq (B_X3_returned_147 N w) (PJ u0 n j) := by
    intro p w hw t e
    unfold B_X3_returned_147
    rw [e]
    exact pnx hb hw (nE t (by decide) (by decide) (by decide)) (fun _ w2 _ h2 => pen h2)
  have e18 : ∀ s0 : Int32, (tyF u0 (i + 1) = 59 → s0 = 0) → (¬ tyF u0 (i + 1) = 59 → s0 = 1) → wq (B_X3_returned_18 N l1 s0 u) (PJ u0 n j) := by
    intro s0 hs0 hs1
    unfold B_X3_returned_18
    refine pok (h.uc.r 2) ?_
    refine wq_bcR (v_X6_name hN h.uc (h.uc.r 2)) (fun r3 hr3 => pok hr3 ?_)
    have e48 : ∀ s1 : Int32, wq (B_X3_returned_48 N l1 s0 r3 s0 s1 u) (PJ u0 n j) := by
      intro s1
      unfold B_X3_returned_48
      refine wq_if.mpr ⟨fun _ => ?_, fun _ => prf (α := Unit) hN h.uc⟩
      unfold B_X3_returned_60
      refine pnx hb h (nE t0 (by decide) (by decide) (by decide)) (fun _ w _ h1 => ?_)
      refine wq_if.mpr ⟨fun c => pok (h1.uc.r 2) ?_, fun c => ?_⟩
      · rcases hD with ⟨q, e⟩ | ⟨q, -⟩
        · exact pvc h1 (v_X6_step hN h1.uc (nImg (by unfold isImg; decide))) (by decide) (fun r w7 h7 _ => e147 (i + 1) w7 h7 q e)
        · rw [hs1 q] at c; exact absurd c (by decide)
      · rcases hD with ⟨q, -⟩ | ⟨q, k, q1, q2, q3⟩
        · exact absurd (hs0 q) c
        · refine wq_bcR (v_X9_here hN h1.uc) (fun r _ => ?_)
          refine pbt (p_E hb hN hL h1 q1) (fun r2 w2 h2 => ?_)
          refine wq_bcR (v_X8_isTooWide hN h2.uc) (fun r3 _ => ?_)
          refine wq_if.mpr ⟨fun _ => ?_, fun _ => prf (α := Unit) hN h2.uc⟩
          unfold B_X3_returned_115
          refine pok (h2.uc.r 2) ?_
          exact pvc h2 (v_X6_step hN h2.uc (nImg (by unfold isImg; decide))) (by decide) (fun r w7 h7 _ => e147 k w7 h7 q2 q3)
    exact wq_if.mpr ⟨fun _ => e48 _, fun _ => e48 _⟩
  exact wq_if.mpr ⟨fun c => e18 0 (fun _ => rfl) (fun q => absurd c q), fun c => e18 1 (fun q => absurd q c) (fun _ => rfl)⟩
theorem p_leave {l1 : Int32} (hb : TB u0 n) (hN : 5000000000 ≤ N) (h : PR u0 n u i) (t0 : tyF u0 i = 25 ∨ tyF u0 i = 26) (t1 : tyF u0 (i + 1) = 59) : wq (F_X3_leave N l1 u) (PJ u0 n (i + 2)) := by
  have hn : ¬ isEnd (tyF u0 i) := by rcases t0 with q | q <;> exact nE q (by decide) (by decide) (by decide)
  unfold F_X3_leave B_X3_leave_0
  refine wq_if.mpr ⟨fun _ => prf (α := Unit) hN h.uc, fun _ => ?_⟩
  unfold B_X3_leave_16
  have fin : ∀ w : CSt, PR u0 n w i → wq (B_X3_leave_69 N w) (PJ u0 n (i + 2)) := by
    intro w hw
    unfold B_X3_leave_69
    refine pnx hb hw hn (fun _ w2 _ h2 => ?_)
    exact pnx hb h2 (nE t1 (by decide) (by decide) (by decide)) (fun _ w3 _ h3 => pen h3)
  refine pis hb h (fun _ => pok (h.uc.r 2) ?_) (fun _ => pok (h.uc.r 2) ?_)
  · exact pvc h (v_X6_step hN h.uc (nImg (by unfold isImg; decide))) (by decide) (fun r w7 h7 _ => wq_pc.mpr (fin _ (h7.x13 (by decide))))
  · exact pvc h (v_X6_step hN h.uc (nImg (by unfold isImg; decide))) (by decide) (fun r w7 h7 _ => wq_pc.mpr (fin _ (h7.x13 (by decide))))
theorem p_constant {l1 : Int32} (hb : TB u0 n) (hN : 5000000000 ≤ N) (h : PR u0 n u i) (hD : gC u0 i j) : wq (F_X3_constant N l1 u) (PS (fun (_ : Int64) w => PR u0 n w j ∧ w.2 = u.2)) := by
  obtain ⟨k, hk, tk, e⟩ := hD
  unfold F_X3_constant B_X3_constant_0
  have e21 : ∀ (l2 : Int32) (w : CSt), PR u0 n w k → w.2 = u.2 → wq (B_X3_constant_21 N l1 l2 w) (PS (fun (_ : Int64) w => PR u0 n w j ∧ w.2 = u.2)) := by
    intro l2 w hw ew
    unfold B_X3_constant_21
    refine wq_bcR (v_X9_here hN hw.uc) (fun r _ => ?_)
    refine wq_bcR (v_X9_isWide hN hw.uc) (fun r2 _ => ?_)
    refine ptn hb hN hw (by rcases tk with q | q <;> exact nE q (by decide) (by decide) (by decide)) (fun r3 w2 e2 h2 => ?_)
    rw [← e] at h2
    have e60 : ∀ (l3 : Int32) (l5 : Int64), wq (B_X3_constant_60 N l1 l3 l5 w2) (PS (fun (_ : Int64) w => PR u0 n w j ∧ w.2 = u.2)) := by
      intro l3 l5
      unfold B_X3_constant_60
      exact wq_if.mpr ⟨fun _ => prf (α := Unit) hN h2.uc, fun _ => pen ⟨h2, e2.trans ew⟩⟩
    exact wq_if.mpr ⟨fun _ => e60 _ _, fun _ => e60 _ _⟩
  refine pis2 hb h (fun c => ?_) (fun c => ?_)
  · rw [if_neg (by decide)]
    rcases hk with ⟨-, q⟩ | ⟨q, -⟩
    · exact absurd c q
    · subst q
      exact pnx hb h (nE c (by decide) (by decide) (by decide)) (fun _ w2 e2 h2 => e21 _ w2 h2 e2)
  · rw [if_pos rfl]
    rcases hk with ⟨q, -⟩ | ⟨-, q⟩
    · subst q; exact e21 _ u h rfl
    · exact absurd q c
theorem gC.lt (h : gC u0 i j) : i < j := by
  obtain ⟨k, hk, -, e⟩ := h
  omega
theorem p_labels {k m c : Nat} (hb : TB u0 n) (hN : 5000000000 ≤ N) (h : PR u0 n u i) (t0 : tyF u0 i = 23) (h1 : gLabel u0 (i + 1) k) (h2 : gLl u0 c k m) (tm : tyF u0 m = 123) : wq (F_X3_labels N u) (PJ u0 n m) := by
  have hb1 := hb.2.1
  have z0 : (0 : Int32).toInt = 0 := by decide
  have e15 : (1500 : Int32).toInt = 1500 := by decide
  unfold F_X3_labels B_X3_labels_0 LP_X3_labels_2
  refine wq_lp (fun (d : Nat) (a : Int32 × CSt) => ∃ p, PR u0 n a.2 p ∧ (p = m ∨ ¬ tyF u0 p = 123 ∧ ¬ isEnd (tyF u0 p) ∧ ∃ k c, gLabel u0 (p + 1) k ∧ gLl u0 c k m) ∧ d = n - p ∧ 0 ≤ a.1.toInt ∧ a.1.toInt ≤ (p : Int)) ?_ _ (n - i) _ (by omega) ⟨i, h, Or.inr ⟨by rw [t0]; decide, nE t0 (by decide) (by decide) (by decide), k, c, h1, h2⟩, rfl, by show 0 ≤ (0 : Int32).toInt; omega, by show (0 : Int32).toInt ≤ _; omega⟩
  clear h1 h2
  rintro d R ⟨l1, v⟩ ⟨p, hp, hg, hd, hl0, hlk⟩ ih
  dsimp only at hp hl0 hlk ⊢
  have hkn := hp.2.2.2.2.2
  have hn : ¬ isEnd (tyF u0 p) := by
    rcases hg with q | ⟨-, q, -⟩
    · rw [q]; exact nE tm (by decide) (by decide) (by decide)
    · exact q
  have hpn := hp.lt hb hn
  unfold B_X3_labels_2
  refine wq_if.mpr ⟨fun c => ?_, fun c => ?_⟩
  · have c1 := Int32.le_iff_toInt_le.mp c
    omega
  refine pis hb hp (fun c2 => ?_) (fun c2 => ?_)
  · rcases hg with q | ⟨q, -⟩
    · rw [← q]; exact pen hp
    · exact absurd c2 q
  · rcases hg with q | ⟨-, -, k, c, ⟨k1, g1, g1t⟩, g2⟩
    · rw [q] at c2; exact absurd tm c2
    · have lt1 := g1.lt
      refine pnx hb hp hn (fun _ w2 _ h2 => ?_)
      refine pbt (p_constant hb hN h2 g1) (fun r3 w3 h3 => ?_)
      obtain ⟨h3, -⟩ := h3
      have el : (l1 + 1).toInt = l1.toInt + 1 := by rw [tI_add (by rw [one_toInt]; omega) (by rw [one_toInt]; omega), one_toInt]
      have back : ∀ (a b : Int64) (w : CSt), PR u0 n w k → p < k → wq (B_X3_labels_90 N R l1 a b w) (PJ u0 n m) := by
        intro a b w hw hpk
        unfold B_X3_labels_90
        refine pok (hw.uc.r 2) ?_
        refine pvc hw (v_X6_label hN hw.uc) (by decide) (fun r w7 h7 _ => ?_)
        have hkn2 := h7.2.2.2.2.2
        refine ih (n - k) (l1 + 1, w7) (by omega) ⟨k, h7, ?_, rfl, by show 0 ≤ (l1 + 1).toInt; omega, by show (l1 + 1).toInt ≤ _; omega⟩
        cases c with
        | zero => exact Or.inl g2.2.symm
        | succ c =>
          obtain ⟨t44, k2, q1, q2⟩ := g2
          exact Or.inr ⟨by rw [t44]; decide, nE t44 (by decide) (by decide) (by decide), k2, c, q1, q2⟩
      refine pis hb h3 (fun c3 => ?_) (fun c3 => ?_)
      · rcases g1t with ⟨q, -⟩ | ⟨-, q⟩
        · exact absurd c3 q
        · have lt2 := q.lt
          refine pnx hb h3 (nE c3 (by decide) (by decide) (by decide)) (fun _ w4 _ h4 => ?_)
          refine wq_bcR (v_X9_here hN h4.uc) (fun r _ => ?_)
          refine pbt (p_constant hb hN h4 q) (fun r5 w5 h5 => ?_)
          exact wq_if.mpr ⟨fun _ => back _ _ _ h5.1 (by omega), fun _ => prf (α := Unit) hN h5.1.uc⟩
      · rcases g1t with ⟨-, q⟩ | ⟨q, -⟩
        · subst q; exact back _ _ _ h3 (by omega)
        · exact absurd q c3
theorem p_statements (hb : TB u0 n) (hN : 5000000000 ≤ N) (hlt : ∀ a b, S a b → a < b) (h2 : ∀ (i j : Nat) (u : CSt), PR u0 n u i → S i j → wq (ro 2 0 0 0 u) (PJ u0 n j)) (h : PR u0 n u i) {c : Nat} (hD : gSl u0 S c i j) (hS : ∀ a b, S a b → ¬ isEnd (tyF u0 a)) : wq (F_X3_statements N ro u) (PJ u0 n j) := by
  have hb1 := hb.2.1
  have z0 : (0 : Int32).toInt = 0 := by decide
  have e15 : (1500 : Int32).toInt = 1500 := by decide
  unfold F_X3_statements B_X3_statements_0 LP_X3_statements_2
  refine wq_lp (fun (d : Nat) (a : Int32 × CSt) => ∃ p c, PR u0 n a.2 p ∧ gSl u0 S c p j ∧ d = n - p ∧ 0 ≤ a.1.toInt ∧ a.1.toInt ≤ (p : Int)) ?_ _ (n - i) _ (by omega) ⟨i, c, h, hD, rfl, by show 0 ≤ (0 : Int32).toInt; omega, by show (0 : Int32).toInt ≤ _; omega⟩
  clear hD
  rintro d R ⟨l1, v⟩ ⟨p, c, hp, hg, hd, hl0, hlk⟩ ih
  dsimp only at hp hl0 hlk ⊢
  have hkn := hp.2.2.2.2.2
  have hn : ¬ isEnd (tyF u0 p) := by
    cases c with
    | zero => exact nE hg.1 (by decide) (by decide) (by decide)
    | succ c => obtain ⟨-, k, q, -⟩ := hg; exact hS _ _ q
  have hpn := hp.lt hb hn
  unfold B_X3_statements_2
  refine wq_if.mpr ⟨fun c => ?_, fun _ => ?_⟩
  · have c1 := Int32.le_iff_toInt_le.mp c
    omega
  refine pis hb hp (fun c2 => ?_) (fun c2 => ?_)
  · unfold B_X3_statements_31
    refine wq_bcR (v_X9_here hN hp.uc) (fun r _ => ?_)
    cases c with
    | zero => rw [hg.2]; exact pnx hb hp hn (fun _ w2 _ h2 => pen h2)
    | succ c => exact absurd c2 hg.1
  · cases c with
    | zero => exact absurd hg.1 c2
    | succ c =>
      obtain ⟨-, k, q, q2⟩ := hg
      have lt1 := hlt _ _ q
      refine pbt (h2 _ _ _ hp q) (fun r w2 h3 => ?_)
      have hkn2 := h3.2.2.2.2.2
      have el : (l1 + 1).toInt = l1.toInt + 1 := by rw [tI_add (by rw [one_toInt]; omega) (by rw [one_toInt]; omega), one_toInt]
      exact ih (n - k) (l1 + 1, w2) (by omega) ⟨k, c, h3, q2, rfl, by show 0 ≤ (l1 + 1).toInt; omega, by show (l1 + 1).toInt ≤ _; omega⟩
theorem p_body (hb : TB u0 n) (h1 : ∀ (i j c : Nat) (u : CSt), PR u0 n u i → gSl u0 S c i j → wq (ro 1 0 0 0 u) (PJ u0 n j)) (h : PR u0 n u i) (hD : gBody u0 S i j) : wq (F_X3_body N ro u) (PJ u0 n j) := by
  obtain ⟨t0, c, hD⟩ := hD
  unfold F_X3_body B_X3_body_0
  refine pnx hb h (nE t0 (by decide) (by decide) (by decide)) (fun _ w2 _ h2 => ?_)
  exact pbt (h1 _ _ _ _ h2 hD) (fun r w3 h3 => pen h3)
theorem p_round {l1 : Int32} (hN : 5000000000 ≤ N) (h0 : ∀ (u : CSt), PR u0 n u i → wq (ro 0 0 0 0 u) (PJ u0 n j)) (h : PR u0 n u i) : wq (F_X3_round N ro l1 u) (PJ u0 n j) := by
  unfold F_X3_round B_X3_round_0
  refine wq_pc.mpr (wq_pc.mpr ?_)
  have h1 : PR u0 n (xI (xI u 15 (-1)) 13 (cI (xI u 15 (-1)) 13 + 1)) i := (h.x13 (k := 15) (by decide)).x13 (k := 13) (by decide)
  refine pok (h1.uc.r 2) ?_
  refine pvc h1 (v_X6_cost hN h1.uc) (by decide) (fun _ w h2 _ => ?_)
  refine pbt (h0 _ h2) (fun r w2 h3 => wq_pc.mpr ?_)
  have h4 := h3.x13 (k := 13) (v := cI w2 13 - 1) (by decide)
  refine pok (h4.uc.r 2) ?_
  exact pvc h4 (v_X6_land hN h4.uc) (by decide) (fun r w7 h7 _ => wq_pc.mpr (pen (h7.x13 (by decide))))
theorem p_loop {l1 : Int32} {k : Nat} (hb : TB u0 n) (hN : 5000000000 ≤ N) (hL : L ≤ 25) (h5 : ∀ (a : Int32) (u : CSt), PR u0 n u k → wq (ro 5 0 a 0 u) (PJ u0 n j)) (h : PR u0 n u i) (t0 : tyF u0 i = 20) (hE : gX u0 L (i + 1) k) : wq (F_X3_loop N ro l1 u) (PJ u0 n j) := by
  unfold F_X3_loop B_X3_loop_0
  refine pnx hb h (nE t0 (by decide) (by decide) (by decide)) (fun _ w1 _ h1 => pok (h1.uc.r 2) ?_)
  refine pbt (p_E hb hN hL h1 hE) (fun r2 w2 h2 => pok (h2.uc.r 2) ?_)
  refine pvc h2 (v_X6_step hN h2.uc (nImg (by unfold isImg; decide))) (by decide) (fun r w3 h3 _ => wq_pc.mpr ?_)
  refine pbt (h5 _ _ (h3.x13 (k := 14) (by decide))) (fun r w4 h4 => pok (h4.uc.r 2) ?_)
  refine pvc h4 (v_X6_step hN h4.uc (nImg (by unfold isImg; decide))) (by decide) (fun r w5 h6 _ => pok (h6.uc.r 2) ?_)
  exact pvc h6 (v_X6_land hN h6.uc) (by decide) (fun r w7 h7 _ => wq_pc.mpr (pen (h7.x13 (by decide))))
theorem p_counted {l1 : Int32} {k m : Nat} (hb : TB u0 n) (hN : 5000000000 ≤ N) (hL : L ≤ 25) (h5 : ∀ (a : Int32) (u : CSt), PR u0 n u m → wq (ro 5 0 a 0 u) (PJ u0 n j)) (h : PR u0 n u i) (t0 : tyF u0 i = 21) (t1 : tyF u0 (i + 1) = 128) (t2 : tyF u0 (i + 2) = 61) (hE : gX u0 L (i + 3) k) (t3 : tyF u0 k = 11822) (hE2 : gX u0 L (k + 1) m) : wq (F_X3_counted N ro l1 u) (PJ u0 n j) := by
  unfold F_X3_counted B_X3_counted_0
  refine pnx hb h (nE t0 (by decide) (by decide) (by decide)) (fun _ w1 _ h1 => ?_)
  refine wq_bcR (v_X9_here hN h1.uc) (fun at_ _ => ?_)
  refine wq_bcR (v_X8_known hN h1.uc) (fun nm hr => pok hr ?_)
  refine wq_if.mpr ⟨fun _ => prf (α := Unit) hN h1.uc, fun _ => ?_⟩
  unfold B_X3_counted_41
  have e62 : wq (B_X3_counted_62 N ro l1 at_ nm w1) (PJ u0 n j) := by
    unfold B_X3_counted_62
    exact prf (α := Unit) hN h1.uc
  have e71 : wq (B_X3_counted_71 N ro l1 at_ nm w1) (PJ u0 n j) := by
    unfold B_X3_counted_71
    refine pnx hb h1 (nE t1 (by decide) (by decide) (by decide)) (fun _ w2 _ h2 => ?_)
    refine pbt (p_setPlain hb hN hL h2 t2 hE) (fun _ w3 h3 => ?_)
    refine pvc h3 (v_X8_set hN h3.uc) (by decide) (fun _ w4 h4 _ => ?_)
    refine pnx hb h4 (nE t3 (by decide) (by decide) (by decide)) (fun _ w5 _ h6 => ?_)
    refine pbt (p_E hb hN hL h6 hE2) (fun r2 w6 h7 => pok (h7.uc.r 2) ?_)
    refine pvc h7 (v_X8_get hN h7.uc (Or.inl (by decide))) (by decide) (fun _ w7 h8 _ => pok (h8.uc.r 2) ?_)
    refine pvc h8 (v_X6_step hN h8.uc (nImg (by unfold isImg; decide))) (by decide) (fun r w8 h9 _ => wq_pc.mpr ?_)
    refine pbt (h5 _ _ (h9.x13 (k := 14) (by decide))) (fun r w9 h10 => ?_)
    refine pvc h10 (v_X8_get hN h10.uc (Or.inl (by decide))) (by decide) (fun _ w10 h11 _ => pok (h11.uc.r 2) ?_)
    refine pvc h11 (v_X6_step hN h11.uc (nImg (by unfold isImg; decide))) (by decide) (fun r w11 h12 _ => wq_pc.mpr ?_)
    have h13 := h12.x13 (k := 14) (v := r) (by decide)
    refine pvc h13 (v_X8_get hN h13.uc (Or.inl (by decide))) (by decide) (fun _ w12 h14 _ => pok (h14.uc.r 2) ?_)
    refine pvc h14 (v_X6_constant hN h14.uc (Or.inl (by decide))) (by decide) (fun _ w13 h15 _ => ?_)
    refine pvc h15 (v_X8_combine hN h15.uc) (by decide) (fun _ w14 h16 _ => ?_)
    refine pvc h16 (v_X8_set hN h16.uc) (by decide) (fun _ w15 h17 _ => pok (h17.uc.r 2) ?_)
    refine pvc h17 (v_X6_step hN h17.uc (nImg (by unfold isImg; decide))) (by decide) (fun r w16 h18 _ => pok (h18.uc.r 2) ?_)
    refine pvc h18 (v_X6_land hN h18.uc) (by decide) (fun r w17 h19 _ => wq_pc.mpr ?_)
    have h20 := h19.x13 (k := 14) (v := cI w7 14) (by decide)
    refine pok (h20.uc.r 2) ?_
    exact pvc h20 (v_X6_step hN h20.uc (nImg (by unfold isImg; decide))) (by decide) (fun r w18 h21 _ => pen h21)
  refine wq_bcR (v_X4_hasNumbers hN h1.uc) (fun r _ => ?_)
  refine wq_if.mpr ⟨fun _ => e62, fun _ => ?_⟩
  refine wq_if.mpr ⟨fun _ => ?_, fun _ => e62⟩
  refine wq_bcR (v_X4_isInput hN h1.uc) (fun r _ => ?_)
  exact wq_if.mpr ⟨fun _ => e71, fun _ => e62⟩
theorem p_choice {l1 : Int32} (hb : TB u0 n) (hN : 5000000000 ≤ N) (hL : L ≤ 25) (hlt : ∀ a b, B a b → a < b) (h0 : ∀ (i j : Nat) (u : CSt), PR u0 n u i → B i j → wq (ro 0 0 0 0 u) (PJ u0 n j)) (h : PR u0 n u i) (t0 : tyF u0 i = 17) (hD : gChoice u0 (gX u0 L) B i j) : wq (F_X3_choice N ro l1 u) (PJ u0 n j) := by
  obtain ⟨k, m, c, hE, hB, hl⟩ := hD
  have hb1 := hb.2.1
  have z0 : (0 : Int32).toInt = 0 := by decide
  have e15 : (1500 : Int32).toInt = 1500 := by decide
  unfold F_X3_choice B_X3_choice_0 LP_X3_choice_7
  refine wq_lp (fun (d : Nat) (a : Int32 × Int32 × Int32 × Int32 × CSt) => ∃ p, PR u0 n a.2.2.2.2 p ∧ (¬ a.2.2.1 = 0 ∧ ¬ isEnd (tyF u0 p) ∧ (∃ k m c, gX u0 L (p + 1) k ∧ B k m ∧ gEl u0 (gX u0 L) B c m j) ∨ a.2.2.1 = 0 ∧ gEl u0 (gX u0 L) B 0 p j) ∧ d = n - p ∧ 0 ≤ a.2.2.2.1.toInt ∧ a.2.2.2.1.toInt ≤ (p : Int)) ?_ _ (n - i) _ (by omega) ⟨i, h, Or.inl ⟨(show ¬ (1 : Int32) = 0 by decide), nE t0 (by decide) (by decide) (by decide), k, m, c, hE, hB, hl⟩, rfl, by show 0 ≤ (0 : Int32).toInt; omega, by show (0 : Int32).toInt ≤ _; omega⟩
  clear hE hB hl
  rintro d R ⟨l1, l2, l3, l4, v⟩ ⟨p, hp, hg, hd, hl0, hlk⟩ ih
  dsimp only at hp hg hl0 hlk ⊢
  have hkn := hp.2.2.2.2.2
  unfold B_X3_choice_7
  have fin : l3 = 0 → wq (B_X3_choice_90 N ro l2 v) (PJ u0 n j) := by
    intro c
    rcases hg with ⟨q, -⟩ | ⟨-, -, hq⟩
    · exact absurd c q
    · have e113 : ∀ w : CSt, PR u0 n w j → wq (B_X3_choice_113 N ro l2 w) (PJ u0 n j) := by
        intro w hw
        unfold B_X3_choice_113
        refine pok (hw.uc.r 2) ?_
        exact pvc hw (v_X6_land hN hw.uc) (by decide) (fun r w7 h7 _ => pen h7)
      unfold B_X3_choice_90
      refine pis hb hp (fun c2 => ?_) (fun c2 => ?_)
      · rcases hq with ⟨q, -⟩ | ⟨-, q⟩
        · exact absurd c2 q
        · refine pnx hb hp (nE c2 (by decide) (by decide) (by decide)) (fun _ w2 _ h2 => ?_)
          exact pbt (h0 _ _ _ h2 q) (fun _ w3 h3 => e113 w3 h3)
      · rcases hq with ⟨-, q⟩ | ⟨q, -⟩
        · rw [← q] at hp; exact e113 _ hp
        · exact absurd q c2
  refine wq_if.mpr ⟨fun c => ?_, fun _ => ?_⟩
  · have c1 := Int32.le_iff_toInt_le.mp c
    rcases hg with ⟨-, q, -⟩ | ⟨q, -⟩
    · have := hp.lt hb q
      omega
    · exact fin q
  refine wq_if.mpr ⟨fun c => fin c, fun c => ?_⟩
  rcases hg with ⟨-, hn, k, m, c, hE, hB, hl⟩ | ⟨q, -⟩
  · have lt1 := (gEO.lt L).1 _ _ hE
    have lt2 := hlt _ _ hB
    refine pnx hb hp hn (fun _ w1 _ h1 => ?_)
    refine pbt (p_E hb hN hL h1 hE) (fun r2 w2 h2 => pok (h2.uc.r 2) ?_)
    refine pvc h2 (v_X6_step hN h2.uc (nImg (by unfold isImg; decide))) (by decide) (fun r w3 h3 _ => ?_)
    refine pbt (h0 _ _ _ h3 hB) (fun _ w4 h4 => pok (h4.uc.r 2) ?_)
    refine pvc h4 (v_X6_step hN h4.uc (nImg (by unfold isImg; decide))) (by decide) (fun r w5 h5 _ => pok (h5.uc.r 2) ?_)
    refine pvc h5 (v_X6_land hN h5.uc) (by decide) (fun _ w6 h6 _ => ?_)
    have hkn2 := h6.2.2.2.2.2
    have el : (l4 + 1).toInt = l4.toInt + 1 := by rw [tI_add (by rw [one_toInt]; omega) (by rw [one_toInt]; omega), one_toInt]
    refine pis2 hb h6 (fun c2 => ?_) (fun c2 => ?_)
    · refine ih (n - m) (l1, r, 1, l4 + 1, w6) (by omega) ⟨m, h6, Or.inl ⟨(show ¬ (1 : Int32) = 0 by decide), nE c2 (by decide) (by decide) (by decide), ?_⟩, rfl, by show 0 ≤ (l4 + 1).toInt; omega, by show (l4 + 1).toInt ≤ _; omega⟩
      cases c with
      | zero => exact absurd c2 hl.1
      | succ c => obtain ⟨-, k2, m2, q1, q2, q3⟩ := hl; exact ⟨k2, m2, c, q1, q2, q3⟩
    · refine ih (n - m) (l1, r, 0, l4 + 1, w6) (by omega) ⟨m, h6, Or.inr ⟨rfl, ?_⟩, rfl, by show 0 ≤ (l4 + 1).toInt; omega, by show (l4 + 1).toInt ≤ _; omega⟩
      cases c with
      | zero => exact hl
      | succ c => exact absurd hl.1 c2
  · exact absurd q c
theorem p_cases {l1 : Int32} (hb : TB u0 n) (hN : 5000000000 ≤ N) (hL : L ≤ 25) (hlt : ∀ a b, B a b → a < b ∧ tyF u0 a = 123) (h0 : ∀ (i j : Nat) (u : CSt), PR u0 n u i → B i j → wq (ro 0 0 0 0 u) (PJ u0 n j)) (h : PR u0 n u i) (t0 : tyF u0 i = 22) (hD : gCases u0 (gX u0 L) B i j) : wq (F_X3_cases N ro l1 u) (PJ u0 n j) := by
  obtain ⟨k, c, hE, tk, hl⟩ := hD
  have hb1 := hb.2.1
  have z0 : (0 : Int32).toInt = 0 := by decide
  have e15 : (1500 : Int32).toInt = 1500 := by decide
  unfold F_X3_cases B_X3_cases_0
  refine pnx hb h (nE t0 (by decide) (by decide) (by decide)) (fun _ w1 _ h1 => ?_)
  refine pbt (p_E hb hN hL h1 hE) (fun r2 w2 h2 => ?_)
  refine pnx hb h2 (nE tk (by decide) (by decide) (by decide)) (fun _ w3 _ h3 => ?_)
  unfold LP_X3_cases_26
  refine wq_lp (fun (d : Nat) (a : Int32 × Int32 × Int32 × CSt) => ∃ p c, PR u0 n a.2.2.2 p ∧ gCl u0 B c p j ∧ d = n - p ∧ 0 ≤ a.2.2.1.toInt ∧ a.2.2.1.toInt ≤ (p : Int)) ?_ _ (n - (k + 1)) _ (by omega) ⟨k + 1, c, h3, hl, rfl, by show 0 ≤ (0 : Int32).toInt; omega, by show (0 : Int32).toInt ≤ _; omega⟩
  clear hl
  rintro d R ⟨l1, l2, l3, v⟩ ⟨p, c, hp, hg, hd, hl0, hlk⟩ ih
  dsimp only at hp hl0 hlk ⊢
  have hkn := hp.2.2.2.2.2
  unfold B_X3_cases_26
  have fin : ¬ tyF u0 p = 23 → wq (B_X3_cases_140 N ro l1 l2 v) (PJ u0 n j) := by
    intro q
    have e176 : ∀ (m : Nat) (w : CSt), PR u0 n w m → tyF u0 m = 125 → j = m + 1 → wq (B_X3_cases_176 N ro l2 w) (PJ u0 n j) := by
      intro m w hw t e
      unfold B_X3_cases_176
      rw [e]
      refine pnx hb hw (nE t (by decide) (by decide) (by decide)) (fun _ w2 _ h2 => pok (h2.uc.r 2) ?_)
      exact pvc h2 (v_X6_land hN h2.uc) (by decide) (fun r w7 h7 _ => pen h7)
    cases c with
    | zero =>
      obtain ⟨-, m, hm, tm, e⟩ := hg
      unfold B_X3_cases_140
      refine pok (hp.uc.r 2) ?_
      refine pvc hp (v_X6_step hN hp.uc (nImg (by unfold isImg; decide))) (by decide) (fun r w5 h5 _ => ?_)
      refine pis hb h5 (fun c2 => ?_) (fun c2 => ?_)
      · rcases hm with ⟨q, -⟩ | ⟨-, q⟩
        · exact absurd c2 q
        · refine pnx hb h5 (nE c2 (by decide) (by decide) (by decide)) (fun _ w6 _ h6 => ?_)
          exact pbt (h0 _ _ _ h6 q) (fun _ w7 h7 => e176 m w7 h7 tm e)
      · rcases hm with ⟨-, q⟩ | ⟨q, -⟩
        · rw [← q] at h5; exact e176 m _ h5 tm e
        · exact absurd q c2
    | succ c => exact absurd hg.1 q
  refine wq_if.mpr ⟨fun c1 => ?_, fun _ => ?_⟩
  · have c2 := Int32.le_iff_toInt_le.mp c1
    have e : p = n := by omega
    exact fin (fun q => nEnd (t := 23) (by decide) (by decide) (by decide) (by rw [← q, e]; exact hb.2.2))
  refine pis hb hp (fun c2 => pok (hp.uc.r 2) ?_) fin
  cases c with
  | zero => exact absurd c2 hg.1
  | succ c =>
    obtain ⟨-, k, cl, m, p2, q1, q2, q3, q4⟩ := hg
    have lt3 := hlt _ _ q3
    refine pbt (p_labels hb hN hp c2 q1 q2 lt3.2) (fun _ w4 h4 => pok (h4.uc.r 2) ?_)
    refine pvc h4 (v_X6_step hN h4.uc (nImg (by unfold isImg; decide))) (by decide) (fun r w5 h5 _ => pok (h5.uc.r 2) ?_)
    refine pvc h5 (v_X6_step hN h5.uc (nImg (by unfold isImg; decide))) (by decide) (fun r w6 h6 _ => pok (h6.uc.r 2) ?_)
    refine pvc h6 (v_X6_step hN h6.uc (nImg (by unfold isImg; decide))) (by decide) (fun r w7 h7 _ => ?_)
    refine pbt (h0 _ _ _ h7 q3) (fun _ w8 h8 => pok (h8.uc.r 2) ?_)
    refine pvc h8 (v_X6_step hN h8.uc (nImg (by unfold isImg; decide))) (by decide) (fun r w9 h9 _ => pok (h9.uc.r 2) ?_)
    refine pvc h9 (v_X6_land hN h9.uc) (by decide) (fun _ w10 h10 _ => ?_)
    have hkn2 := h10.2.2.2.2.2
    have el : (l3 + 1).toInt = l3.toInt + 1 := by rw [tI_add (by rw [one_toInt]; omega) (by rw [one_toInt]; omega), one_toInt]
    have ltm : p < m := by
      have hk1 : ∀ {c i j : Nat}, gLl u0 c i j → i ≤ j := by
        intro c
        induction c with
        | zero => intro i j h; have := h.2; omega
        | succ c ih2 =>
          intro i j h
          obtain ⟨-, k, ⟨k1, a1, a2⟩, h2⟩ := h
          have := a1.lt
          have := ih2 h2
          rcases a2 with ⟨-, a2⟩ | ⟨-, a2⟩
          · omega
          · have := a2.lt; omega
      obtain ⟨k1, a1, a2⟩ := q1
      have := a1.lt
      have := hk1 q2
      rcases a2 with ⟨-, a2⟩ | ⟨-, a2⟩
      · omega
      · have := a2.lt; omega
    exact ih (n - p2) (l1, _, l3 + 1, w10) (by omega) ⟨p2, c, h10, q4, rfl, by show 0 ≤ (l3 + 1).toInt; omega, by show (l3 + 1).toInt ≤ _; omega⟩
theorem p_statement (hb : TB u0 n) (hN : 5000000000 ≤ N) (hL : L ≤ 24) (h3 : ∀ (a : Int32) (w : CSt), PR u0 n w i → tyF u0 i = 17 → gChoice u0 (gX u0 (L + 1)) B i j → wq (ro 3 0 a 0 w) (PJ u0 n j)) (h4 : ∀ (a : Int32) (w : CSt) (k : Nat), PR u0 n w i → tyF u0 i = 20 → gX u0 (L + 1) (i + 1) k → B k j → wq (ro 4 0 a 0 w) (PJ u0 n j)) (h6 : ∀ (a : Int32) (w : CSt), PR u0 n w i → tyF u0 i = 21 → gCounted u0 (gX u0 (L + 1)) B i j → wq (ro 6 0 a 0 w) (PJ u0 n j)) (h7 : ∀ (a : Int32) (w : CSt), PR u0 n w i → tyF u0 i = 22 → gCases u0 (gX u0 (L + 1)) B' i j → wq (ro 7 0 a 0 w) (PJ u0 n j)) (h : PR u0 n u i) (hD : gStat u0 (gX u0 (L + 1)) (gX u0 L) B B' i j) : wq (F_X3_statement N ro u) (PJ u0 n j) := by
  unfold F_X3_statement B_X3_statement_0
  refine wq_bcR (v_X9_here hN h.uc) (fun r _ => pok (h.uc.r 2) ?_)
  refine pvc h (v_X6_cost hN h.uc) (by decide) (fun _ w h1 _ => ?_)
  refine pty hb h1 ?_
  have no : ∀ {t s : Int32} {P : Prop}, tyF u0 i = t → tyF u0 i = s → ¬ t = s → P := fun a b c => absurd (a.symm.trans b) c
  rcases hD with ⟨t, q⟩ | ⟨t, k, q1, q2⟩ | ⟨t, q⟩ | ⟨t, q⟩ | ⟨t, q1, q2⟩ | ⟨t, q⟩ | ⟨t, k, q1, q2, q3⟩ | ⟨t, q⟩
  · rw [t]
    exact wq_if.mpr ⟨fun _ => pbt (h3 _ _ h1 t q) (fun _ w2 h2 => pen h2), fun c => absurd rfl c⟩
  · rw [t]
    refine wq_if.mpr ⟨fun c => absurd c (by decide), fun _ => ?_⟩
    exact wq_if.mpr ⟨fun _ => pbt (h4 _ _ _ h1 t q1 q2) (fun _ w2 h2 => pen h2), fun c => absurd rfl c⟩
  · rw [t]
    refine wq_if.mpr ⟨fun c => absurd c (by decide), fun _ => ?_⟩
    refine wq_if.mpr ⟨fun c => absurd c (by decide), fun _ => ?_⟩
    exact wq_if.mpr ⟨fun _ => pbt (h6 _ _ h1 t q) (fun _ w2 h2 => pen h2), fun c => absurd rfl c⟩
  · rw [t]
    refine wq_if.mpr ⟨fun c => absurd c (by decide), fun _ => ?_⟩
    refine wq_if.mpr ⟨fun c => absurd c (by decide), fun _ => ?_⟩
    refine wq_if.mpr ⟨fun c => absurd c (by decide), fun _ => ?_⟩
    exact wq_if.mpr ⟨fun _ => pbt (h7 _ _ h1 t q) (fun _ w2 h2 => pen h2), fun c => absurd rfl c⟩
  · subst q2
    have lv : wq (bt (F_X3_leave N r w) fun _ u_20 => some (.inr 0, u_20)) (PJ u0 n (i + 2)) := pbt (p_leave hb hN h1 t q1) (fun _ w2 h2 => pen h2)
    rcases t with t | t
    · rw [t]
      refine wq_if.mpr ⟨fun c => absurd c (by decide), fun _ => ?_⟩
      refine wq_if.mpr ⟨fun c => absurd c (by decide), fun _ => ?_⟩
      refine wq_if.mpr ⟨fun c => absurd c (by decide), fun _ => ?_⟩
      refine wq_if.mpr ⟨fun c => absurd c (by decide), fun _ => ?_⟩
      exact wq_if.mpr ⟨fun _ => lv, fun c => absurd rfl c⟩
    · rw [t]
      refine wq_if.mpr ⟨fun c => absurd c (by decide), fun _ => ?_⟩
      refine wq_if.mpr ⟨fun c => absurd c (by decide), fun _ => ?_⟩
      refine wq_if.mpr ⟨fun c => absurd c (by decide), fun _ => ?_⟩
      refine wq_if.mpr ⟨fun c => absurd c (by decide), fun _ => ?_⟩
      refine wq_if.mpr ⟨fun c => absurd c (by decide), fun _ => ?_⟩
      exact wq_if.mpr ⟨fun _ => lv, fun c => absurd rfl c⟩
  · have rt := p_returned (l1 := r) hb hN (by omega : L + 1 ≤ 25) h1 t q
    rw [t]
    refine wq_if.mpr ⟨fun c => absurd c (by decide), fun _ => ?_⟩
    refine wq_if.mpr ⟨fun c => absurd c (by decide), fun _ => ?_⟩
    refine wq_if.mpr ⟨fun c => absurd c (by decide), fun _ => ?_⟩
    refine wq_if.mpr ⟨fun c => absurd c (by decide), fun _ => ?_⟩
    refine wq_if.mpr ⟨fun c => absurd c (by decide), fun _ => ?_⟩
    refine wq_if.mpr ⟨fun c => absurd c (by decide), fun _ => ?_⟩
    exact wq_if.mpr ⟨fun _ => pbt rt (fun _ w2 h2 => pen h2), fun c => absurd rfl c⟩
  · rw [t]
    refine wq_if.mpr ⟨fun c => absurd c (by decide), fun _ => ?_⟩
    refine wq_if.mpr ⟨fun c => absurd c (by decide), fun _ => ?_⟩
    refine wq_if.mpr ⟨fun c => absurd c (by decide), fun _ => ?_⟩
    refine wq_if.mpr ⟨fun c => absurd c (by decide), fun _ => ?_⟩
    refine wq_if.mpr ⟨fun c => absurd c (by decide), fun _ => ?_⟩
    refine wq_if.mpr ⟨fun c => absurd c (by decide), fun _ => ?_⟩
    refine wq_if.mpr ⟨fun c => absurd c (by decide), fun _ => ?_⟩
    refine wq_if.mpr ⟨fun _ => ?_, fun c => absurd rfl c⟩
    refine pnx hb h1 (nE t (by decide) (by decide) (by decide)) (fun _ w2 _ h2 => ?_)
    refine pbt (p_E hb hN (by omega : L + 1 ≤ 25) h2 q1) (fun _ w3 h3 => pok (h3.uc.r 2) ?_)
    refine pvc h3 (v_X6_step hN h3.uc (nImg (by unfold isImg; decide))) (by decide) (fun r w9 h9 _ => ?_)
    rw [q3]
    exact pnx hb h9 (nE q2 (by decide) (by decide) (by decide)) (fun _ w4 _ h4 => pen h4)
  · have hi := h1.lt hb (nE t (by decide) (by decide) (by decide))
    rw [t]
    refine wq_if.mpr ⟨fun c => absurd c (by decide), fun _ => ?_⟩
    refine wq_if.mpr ⟨fun c => absurd c (by decide), fun _ => ?_⟩
    refine wq_if.mpr ⟨fun c => absurd c (by decide), fun _ => ?_⟩
    refine wq_if.mpr ⟨fun c => absurd c (by decide), fun _ => ?_⟩
    refine wq_if.mpr ⟨fun c => absurd c (by decide), fun _ => ?_⟩
    refine wq_if.mpr ⟨fun c => absurd c (by decide), fun _ => ?_⟩
    refine wq_if.mpr ⟨fun c => absurd c (by decide), fun _ => ?_⟩
    refine wq_if.mpr ⟨fun c => absurd c (by decide), fun _ => ?_⟩
    refine pah (m := 1) hb h1 (by decide) (by omega) ?_
    refine wq_if.mpr ⟨fun c => ?_, fun c => ?_⟩
    · exact pbt (p_instanceCall hb hN hL h1 t c q) (fun _ w2 h2 => pen h2)
    · exact pbt (p_assignment hb hN hL h1 t c q) (fun _ w2 h2 => pen h2)
end PStat
