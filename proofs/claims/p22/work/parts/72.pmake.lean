/-! Routines, tasks, the whole second pass; load. -/
section PMake
variable {N n i j : Nat} {u0 u w : CSt}
theorem p_parameter {ρ m : Nat} (hb : TB u0 n) (hN : 5000000000 ≤ N) (h : PR u0 n u i) (ho : OW u ρ) (hm : tyF u0 i = 44 ∧ m = i + 1 ∨ ¬ tyF u0 i = 44 ∧ m = i) (hk : gK u0 m) (hn : tyF u0 (m + 1) = 128) : wq (F_X3_parameter N u) (PS (fun (_ : Int32) w => PR u0 n w (m + 2) ∧ OW w ρ)) := by
  have e19 : ∀ w : CSt, PR u0 n w m → OW w ρ → wq (B_X3_parameter_19 N w) (PS (fun (_ : Int32) w => PR u0 n w (m + 2) ∧ OW w ρ)) := by
    intro w hw how
    unfold B_X3_parameter_19
    refine ptkd hb hw hk (fun r w1 e1 h1 k0 k4 => ?_)
    refine wq_bcR (v_X9_here hN h1.uc) (fun pl _ => ?_)
    refine pbt (p_newName hb hN h1 (nE hn (by decide) (by decide) (by decide)) (by decide)) (fun nm w2 hw2 => ?_)
    obtain ⟨h2, hnn⟩ := hw2
    obtain ⟨o2, one⟩ := hnn.ow (how.same e1)
    refine pok hnn.2.1 (wq_pc.mpr (wq_pc.mpr ?_))
    have h3 : PR u0 n (xmI w2 nm 5 r) (m + 2) := h2.xm (k := 5) (show (0 : Int) ≤ r.toInt by omega) (show r.toInt ≤ (4 : Int) by omega)
    have o3 : OW (xmI w2 nm 5 r) ρ := o2.xm (Or.inl one)
    generalize xmI w2 nm 5 r = w3 at h3 o3 ⊢
    have h4 : PR u0 n (xmI w3 nm 7 1) (m + 2) := h3.xm (k := 7) (by decide) (by decide)
    have o4 : OW (xmI w3 nm 7 1) ρ := o3.xm (Or.inl one)
    have s4 : mI (xmI w3 nm 7 1) nm 7 = 1 := mI_eq
    generalize xmI w3 nm 7 1 = w4 at h4 o4 s4 ⊢
    exact pbt (p_join hN h4 o4 (by rw [s4]; decide) (by rw [s4]; decide)) (fun _ w5 h5 => pen h5)
  unfold F_X3_parameter B_X3_parameter_0
  refine pis hb h (fun c => ?_) (fun c => ?_)
  · rcases hm with ⟨-, e⟩ | ⟨q, -⟩
    · subst e
      exact pnx hb h (nE c (by decide) (by decide) (by decide)) (fun _ w1 e1 h1 => e19 w1 h1 (ho.same e1))
    · exact absurd c q
  · rcases hm with ⟨q, -⟩ | ⟨-, e⟩
    · exact absurd q c
    · subst e; exact e19 u h ho
theorem gVariables.lt (h : gVariables u0 i j) : i < j := by
  obtain ⟨-, k, c, hv, hl⟩ := h
  have h1 := hv.lt
  have : ∀ {c k j : Nat}, gVl u0 c k j → k < j := by
    intro c
    induction c with
    | zero => intro k j h; have := h.2.2; omega
    | succ c ih => intro k j h; obtain ⟨-, m, q1, q2⟩ := h; have := q1.lt; have := ih q2; omega
  have := this hl
  omega
theorem PR.x15 {q : Nat} {v : Int32} (h : PR u0 n u i) : PR u0 n (xpI u q 15 v) i := by
  have b := i32_b v
  exact ⟨UC.xpI (k := 15) h.1 (show (-2147483648 : Int) ≤ v.toInt by omega) (show v.toInt ≤ (2147483647 : Int) by omega), h.2⟩
theorem p_routine {l1 l2 : Int32} (hb : TB u0 n) (hN : 5000000000 ≤ N) (h : PR u0 n u i) (hl : l1 = 3 ∨ l1 = 4) (k0 : 0 ≤ l2.toInt) (k4 : l2.toInt ≤ 4) (hD : gRout u0 i j) : wq (F_X3_routine N l1 l2 u) (PJ u0 n j) := by
  obtain ⟨t0, t1, kk, cc, hkk, hpl⟩ := hD
  have hb1 := hb.2.1
  have z0 : (0 : Int32).toInt = 0 := by decide
  have e15 : (1500 : Int32).toInt = 1500 := by decide
  have hl0 : 0 ≤ l1.toInt := by rcases hl with e | e <;> rw [e] <;> decide
  unfold F_X3_routine B_X3_routine_0
  refine pbt (p_newName hb hN h (nE t0 (by decide) (by decide) (by decide)) hl0) (fun nm w1 hw => ?_)
  obtain ⟨h1, hn⟩ := hw
  obtain ⟨n1, n2, n3, n4, n5, n6, n7, n8⟩ := hn
  refine pok n2 (wq_pc.mpr ?_)
  have h2 : PR u0 n (xmI w1 nm 5 l2) (i + 1) := h1.xm (k := 5) (show (0 : Int) ≤ l2.toInt by omega) (show l2.toInt ≤ (4 : Int) by omega)
  have q3h : mI (xmI w1 nm 5 l2) nm 3 = pI u (cR u 2) 12 := by rw [mI_ne (Or.inr (by decide))]; exact n8
  have q7h : mI (xmI w1 nm 5 l2) nm 7 = 0 := by rw [mI_ne (Or.inr (by decide))]; exact n7
  have qRh : cR (xmI w1 nm 5 l2) = cR u := n3
  have qPh : (pI (xmI w1 nm 5 l2) (cR u 2) 12).toInt = (pI u (cR u 2) 12).toInt + 1 := n5
  generalize xmI w1 nm 5 l2 = w2 at h2 q3h q7h qRh qPh ⊢
  refine pok (h2.uc.r 2) (wq_pc.mpr ?_)
  have r12 : (0 : Int) ≤ (pI u (cR u 2) 12).toInt ∧ (pI u (cR u 2) 12).toInt ≤ 160 := h.uc.p (cR u 2) 12
  have h3 : PR u0 n (xpI w2 (cR w2 2) 15 (mI w2 nm 3)) (i + 1) := h2.x15
  have o3 : OW (xpI w2 (cR w2 2) 15 (mI w2 nm 3)) nm := by
    have e1 : cR (xpI w2 (cR w2 2) 15 (mI w2 nm 3)) = cR w2 := rfl
    have e2 : mI (xpI w2 (cR w2 2) 15 (mI w2 nm 3)) = mI w2 := rfl
    unfold OW
    rw [e1, e2, pI_eq, pI_ne (Or.inr (by decide)), q3h, q7h, qRh]
    refine ⟨n1, r12.1, by omega, by decide⟩
  generalize xpI w2 (cR w2 2) 15 (mI w2 nm 3) = w3 at h3 o3 ⊢
  refine pnx hb h3 (nE t1 (by decide) (by decide) (by decide)) (fun _ w4 e4 h4 => ?_)
  have o4 := o3.same e4
  -- behind the parameters
  have e118 : ∀ (k c : Nat) (w : CSt), PR u0 n w k → gSl u0 (gS u0 24) c k j → wq (B_X3_routine_118 N l1 l2 nm w) (PJ u0 n j) := by
    intro k c w hw hs
    unfold B_X3_routine_118
    refine pok (hw.uc.r 2) (wq_pc.mpr ?_)
    have b := i32_b (pI w (cR w 2) 13)
    have h5 : PR u0 n (xmI w nm 13 (pI w (cR w 2) 13)) k := hw.xm (k := 13) (show (-2147483648 : Int) ≤ (pI w (cR w 2) 13).toInt by omega) (show (pI w (cR w 2) 13).toInt ≤ (2147483647 : Int) by omega)
    refine pbt (p_S0 hb hN h5 hs) (fun r w6 h6 => ?_)
    refine wq_if.mpr ⟨fun _ => pok (h6.uc.r 2) ?_, fun _ => pok (h6.uc.r 2) ?_⟩
    · refine pvc h6 (v_X6_constant hN h6.uc (Or.inl (by decide))) (by decide) (fun _ w7 h7 _ => pok (h7.uc.r 2) ?_)
      refine pvc h7 (v_X6_step hN h7.uc (nImg (by unfold isImg; decide))) (by decide) (fun _ w8 h8 _ => pok (h8.uc.r 2) ?_)
      exact wq_pc.mpr (pen h8.x15)
    · refine pvc h6 (v_X6_step hN h6.uc (nImg (by unfold isImg; decide))) (by decide) (fun _ w8 h8 _ => pok (h8.uc.r 2) ?_)
      exact wq_pc.mpr (pen h8.x15)
  have e79 : ∀ (k c : Nat) (w : CSt), PR u0 n w k → OW w nm → gVs u0 c k j → wq (LP_X3_routine_79 N N (l1, l2, nm, 0, w)) (PJ u0 n j) := by
    intro k c w hw how hv
    unfold LP_X3_routine_79
    refine wq_lp (fun (d : Nat) (a : Int32 × Int32 × Nat × Int32 × CSt) => a.1 = l1 ∧ a.2.1 = l2 ∧ a.2.2.1 = nm ∧ OW a.2.2.2.2 nm ∧ ∃ k c, PR u0 n a.2.2.2.2 k ∧ gVs u0 c k j ∧ d = n - k ∧ 0 ≤ a.2.2.2.1.toInt ∧ a.2.2.2.1.toInt ≤ (k : Int)) ?_ _ (n - k) _ (by omega) ⟨rfl, rfl, rfl, how, k, c, hw, hv, rfl, by show 0 ≤ (0 : Int32).toInt; omega, by show (0 : Int32).toInt ≤ _; omega⟩
    clear hv
    rintro d R ⟨m1, m2, m3, m4, v⟩ ⟨em1, em2, em3, how, k, c, hk, hg, hd, hl0, hlk⟩ ih
    dsimp only at em1 em2 em3 how hk hl0 hlk ⊢
    subst em1 em2 em3
    have hkn := hk.2.2.2.2.2
    unfold B_X3_routine_79
    have fin : ¬ tyF u0 k = 1 → wq (B_X3_routine_118 N m1 m2 m3 v) (PJ u0 n j) := by
      intro q
      cases c with
      | zero => obtain ⟨-, c2, q2⟩ := hg; exact e118 k c2 v hk q2
      | succ c => exact absurd hg.1 q
    refine wq_if.mpr ⟨fun c1 => ?_, fun _ => ?_⟩
    · have c2 := Int32.le_iff_toInt_le.mp c1
      have e : k = n := by omega
      exact fin (fun q => nEnd (t := 1) (by decide) (by decide) (by decide) (by rw [← q, e]; exact hb.2.2))
    refine pis hb hk (fun c2 => ?_) fin
    cases c with
    | zero => exact absurd c2 hg.1
    | succ c =>
      obtain ⟨-, k', q1, q2⟩ := hg
      have lt1 := q1.lt
      refine pnx hb hk (nE c2 (by decide) (by decide) (by decide)) (fun _ w5 e5 h5 => ?_)
      refine pbt (p_variables (ρ := m3) hb hN h5 (Or.inr ⟨rfl, how.same e5⟩) q1) (fun _ w6 h6 => ?_)
      have hkn2 := h6.1.2.2.2.2.2
      have el : (m4 + 1).toInt = m4.toInt + 1 := by rw [tI_add (by rw [one_toInt]; omega) (by rw [one_toInt]; omega), one_toInt]
      exact ih (n - k') (m1, m2, m3, m4 + 1, w6) (by omega) ⟨rfl, rfl, rfl, h6.2 rfl, k', c, h6.1, q2, rfl, by show 0 ≤ (m4 + 1).toInt; omega, by show (m4 + 1).toInt ≤ _; omega⟩
  have hst : (∃ c, gPl u0 c (i + 2) j) ∨ (gK u0 (i + 2) ∧ tyF u0 (i + 3) = 128 ∧ ∃ c, gPl u0 c (i + 4) j) := by
    rcases hkk with ⟨-, e⟩ | ⟨-, q1, q2, e⟩
    · subst e; exact Or.inl ⟨cc, hpl⟩
    · subst e; exact Or.inr ⟨q1, q2, cc, hpl⟩
  unfold LP_X3_routine_32
  refine wq_lp (fun (d : Nat) (a : Int32 × Int32 × Nat × Int32 × CSt) => a.1 = l1 ∧ a.2.1 = l2 ∧ a.2.2.1 = nm ∧ OW a.2.2.2.2 nm ∧ ∃ k, PR u0 n a.2.2.2.2 k ∧ ((∃ c, gPl u0 c k j) ∨ (gK u0 k ∧ tyF u0 (k + 1) = 128 ∧ ∃ c, gPl u0 c (k + 2) j)) ∧ d = n - k ∧ 0 ≤ a.2.2.2.1.toInt ∧ a.2.2.2.1.toInt ≤ (k : Int)) ?_ _ (n - (i + 2)) _ (by omega) ⟨rfl, rfl, rfl, o4, i + 2, h4, hst, rfl, by show 0 ≤ (0 : Int32).toInt; omega, by show (0 : Int32).toInt ≤ _; omega⟩
  clear hst hpl hkk
  rintro d R ⟨m1, m2, m3, m4, v⟩ ⟨em1, em2, em3, how, k, hk, hg, hd, hl0, hlk⟩ ih
  dsimp only at em1 em2 em3 how hk hl0 hlk ⊢
  subst em1 em2 em3
  have hkn := hk.2.2.2.2.2
  have gk41 : gK u0 k → ¬ tyF u0 k = 41 ∧ ¬ tyF u0 k = 44 := by
    rintro ⟨q1, q2⟩
    constructor <;> intro q <;> (rw [q] at q1 q2; revert q1 q2; decide)
  have hne : ¬ isEnd (tyF u0 k) := by
    rcases hg with ⟨c, q⟩ | ⟨q, -⟩
    · cases c with
      | zero => exact nE q.2.1 (by decide) (by decide) (by decide)
      | succ c => exact nE q.1 (by decide) (by decide) (by decide)
    · exact q.ne
  have hlt := hk.lt hb hne
  unfold B_X3_routine_32
  refine wq_if.mpr ⟨fun c1 => ?_, fun _ => ?_⟩
  · have c2 := Int32.le_iff_toInt_le.mp c1
    omega
  have el : (m4 + 1).toInt = m4.toInt + 1 := by rw [tI_add (by rw [one_toInt]; omega) (by rw [one_toInt]; omega), one_toInt]
  refine pis hb hk (fun c2 => ?_) (fun c2 => ?_)
  · rcases hg with ⟨c, q⟩ | ⟨q, -⟩
    · cases c with
      | zero =>
        obtain ⟨-, -, q1, c, q2⟩ := q
        unfold B_X3_routine_62
        refine pnx hb hk hne (fun _ w5 e5 h5 => ?_)
        refine pnx hb h5 (nE q1 (by decide) (by decide) (by decide)) (fun _ w6 e6 h6 => ?_)
        exact e79 (k + 2) c w6 h6 ((how.same e5).same e6) q2
      | succ c => exact absurd (c2.symm.trans q.1) (by decide)
    · exact absurd c2 (gk41 q).1
  · rcases hg with ⟨c, q⟩ | ⟨q, q1, c, q2⟩
    · cases c with
      | zero => exact absurd q.2.1 c2
      | succ c =>
        obtain ⟨q0, q1, q2, q3⟩ := q
        refine pbt (p_parameter (m := k + 1) hb hN hk how (Or.inl ⟨q0, rfl⟩) q1 q2) (fun _ w6 h6 => ?_)
        have hkn2 := h6.1.2.2.2.2.2
        exact ih (n - (k + 3)) (m1, m2, m3, m4 + 1, w6) (by omega) ⟨rfl, rfl, rfl, h6.2, k + 3, h6.1, Or.inl ⟨c, q3⟩, rfl, by show 0 ≤ (m4 + 1).toInt; omega, by show (m4 + 1).toInt ≤ _; omega⟩
    · refine pbt (p_parameter (m := k) hb hN hk how (Or.inr ⟨(gk41 q).2, rfl⟩) q q1) (fun _ w6 h6 => ?_)
      have hkn2 := h6.1.2.2.2.2.2
      exact ih (n - (k + 2)) (m1, m2, m3, m4 + 1, w6) (by omega) ⟨rfl, rfl, rfl, h6.2, k + 2, h6.1, Or.inl ⟨c, q2⟩, rfl, by show 0 ≤ (m4 + 1).toInt; omega, by show (m4 + 1).toInt ≤ _; omega⟩
theorem p_cyclic (hb : TB u0 n) (hN : 5000000000 ≤ N) (h : PR u0 n u (i + 1)) (hD : gCyc u0 i j) : wq (F_X3_cyclic N u) (PJ u0 n j) := by
  obtain ⟨t1, t2, t3, k, hk, hB⟩ := hD
  obtain ⟨tk, c, hS⟩ := hB
  unfold F_X3_cyclic B_X3_cyclic_0
  refine pbt (p_newName hb hN h (nE t1 (by decide) (by decide) (by decide)) (by decide)) (fun nm w1 hw => ?_)
  obtain ⟨h1, hn⟩ := hw
  refine pok hn.2.1 ?_
  refine pnx hb h1 (nE t2 (by decide) (by decide) (by decide)) (fun _ w2 _ h2 => ?_)
  refine ptb hb hN h2 (nE t3 (by decide) (by decide) (by decide)) (fun v w3 _ h3 _ _ => ?_)
  have e61 : ∀ (a b : Int32) (w : CSt), PR u0 n w k → wq (B_X3_cyclic_61 N nm a b w) (PJ u0 n j) := by
    intro a b w hw
    have e94 : ∀ w : CSt, PR u0 n w k → wq (B_X3_cyclic_94 N w) (PJ u0 n j) := by
      intro w hw
      unfold B_X3_cyclic_94
      refine pnx hb hw (nE tk (by decide) (by decide) (by decide)) (fun _ w4 _ h4 => pok (h4.uc.r 2) ?_)
      refine pbt (p_S0 hb hN h4 hS) (fun r w6 h6 => ?_)
      exact pvc h6 (v_X6_step hN h6.uc (nImg (by unfold isImg; decide))) (by decide) (fun _ w8 h8 _ => pen h8)
    unfold B_X3_cyclic_61
    refine wq_if.mpr ⟨fun _ => e94 w hw, fun c => pok (hw.uc.r 2) ?_⟩
    have c1 := Int32.lt_iff_toInt_lt.mp (Int32.not_le.mp c)
    have e8 : (8 : Int32).toInt = 8 := by decide
    have r4 : (0 : Int) ≤ (mI w nm 4).toInt ∧ (mI w nm 4).toInt ≤ 2147483647 := hw.uc.m nm 4
    refine wq_ix.mpr ⟨vin_iff.mpr ⟨r4.1, by omega⟩, ?_⟩
    exact pvc hw (v_X7_become hN hw.uc) (by decide) (fun _ w8 h8 _ => e94 w8 h8)
  refine pis hb h3 (fun c => ?_) (fun c => ?_)
  · rcases hk with ⟨q, -⟩ | ⟨-, q1, q2⟩
    · exact absurd c q
    · subst q2
      refine pnx hb h3 (nE c (by decide) (by decide) (by decide)) (fun _ w4 _ h4 => ?_)
      exact ptb hb hN h4 (nE q1 (by decide) (by decide) (by decide)) (fun v w5 _ h5 _ _ => e61 _ _ _ h5)
  · rcases hk with ⟨-, q⟩ | ⟨q, -⟩
    · subst q; exact e61 _ _ _ h3
    · exact absurd q c
theorem gItem.lt (h : gItem u0 i j) : ¬ isEnd (tyF u0 i) := by
  rcases h with ⟨t | t, -⟩ | ⟨t | t, -⟩ | ⟨t, -⟩ | ⟨t, -⟩ | ⟨t, -⟩ | ⟨t, -⟩ <;> exact nE t (by decide) (by decide) (by decide)
theorem gPl.lt : ∀ {c k j : Nat}, gPl u0 c k j → k < j := by
  intro c
  induction c with
  | zero =>
    intro k j h
    obtain ⟨-, -, -, c, h⟩ := h
    have : ∀ {c k j : Nat}, gVs u0 c k j → k < j := by
      intro c
      induction c with
      | zero => intro k j h; obtain ⟨-, c, h⟩ := h; exact gSl.lt (fun a b q => ((gSB.lt 24).1 a b q).1) h
      | succ c ih => intro k j h; obtain ⟨-, m, q1, q2⟩ := h; have := q1.lt; have := ih q2; omega
    have := this h
    omega
  | succ c ih => intro k j h; obtain ⟨-, -, -, h⟩ := h; have := ih h; omega
theorem gItem.lt2 (h : gItem u0 i j) : i < j := by
  rcases h with ⟨-, h⟩ | ⟨-, h⟩ | ⟨-, h⟩ | ⟨-, h⟩ | ⟨-, -, h⟩ | ⟨-, h⟩
  · exact h.lt
  · have := h.2.2.2.2.2; omega
  · obtain ⟨-, -, k, c, hk, h⟩ := h
    have := gPl.lt h
    rcases hk with ⟨-, e⟩ | ⟨-, -, -, e⟩ <;> omega
  · obtain ⟨-, -, c, h⟩ := h
    have : ∀ {c k j : Nat}, gNl u0 c k j → k < j := by
      intro c
      induction c with
      | zero => intro k j h; have := h.2.2; omega
      | succ c ih => intro k j h; obtain ⟨-, -, q2⟩ := h; have := ih q2; omega
    have := this h
    omega
  · obtain ⟨-, -, k, c, hk, h⟩ := h
    have := gPl.lt h
    rcases hk with ⟨-, e⟩ | ⟨-, -, -, e⟩ <;> omega
  · obtain ⟨-, -, -, k, hk, h⟩ := h
    have := ((gSB.lt 25).2 _ _ h).1
    rcases hk with ⟨-, e⟩ | ⟨-, -, e⟩ <;> omega
theorem p_make {q c : Nat} (hb : TB u0 n) (hN : 5000000000 ≤ N) (hU : UC u) (e203 : cA u 203 = cA u0 203) (e4 : cI u 4 = cI u0 4) (hq : q < 2) (hD : gItems u0 c 0 j) : wq (F_X3_make N q u) (PS (fun (_ : Int32) w => UC w)) := by
  have hb1 := hb.2.1
  have z0 : (0 : Int32).toInt = 0 := by decide
  have e15 : (1500 : Int32).toInt = 1500 := by decide
  unfold F_X3_make B_X3_make_0
  refine wq_pc.mpr ?_
  have U1 : UC (xR u 2 q) := UC.xR hU hq
  refine pok (U1.r 2) ?_
  have f1 : ∀ k, cI (xR u 2 q) k = cI u k := fun k => rfl
  have g1 : ∀ k, cA (xR u 2 q) k = cA u k := fun k => rfl
  generalize xR u 2 q = w1 at U1 f1 g1 ⊢
  refine wq_bcV (v_X6_empty (U1.r 2) U1) (fun _ w2 U2 F2 _ => ?_)
  have f2 : cI w2 4 = cI u 4 := (F2.1 4 (by decide)).trans (f1 4)
  have g2 : cA w2 203 = cA u 203 := (F2.2 203 (Or.inl rfl) (by decide)).trans (g1 203)
  refine wq_bcV (v_X8_begin hN U2 hq) (fun _ w3 U3 F3 _ => ?_)
  have f3 : cI w3 4 = cI u 4 := (F3.1 4 (by decide)).trans f2
  have g3 : cA w3 203 = cA u 203 := (F3.2 203 (Or.inl rfl) (by decide)).trans g2
  refine wq_pc.mpr (wq_pc.mpr (wq_pc.mpr (wq_pc.mpr (wq_pc.mpr ?_))))
  have h4 : UC (xI (xF w3 228 (fl (cA w3 228) 0 5)) 12 0) ∧ AD (xI (xF w3 228 (fl (cA w3 228) 0 5)) 12 0) ∧ cA (xI (xF w3 228 (fl (cA w3 228) 0 5)) 12 0) 203 = cA u0 203 ∧ cI (xI (xF w3 228 (fl (cA w3 228) 0 5)) 12 0) 4 = cI u0 4 := by
    have eA : ∀ m, m < 5 → cA (xI (xF w3 228 (fl (cA w3 228) 0 5)) 12 0) 228 m = 0 := by
      intro m hm
      show (if 228 = 228 then fl (cA w3 228) 0 5 else cA w3 228) m = 0
      rw [if_pos rfl]
      unfold fl
      rw [if_pos hm]
    refine ⟨UC.xI (k := 12) (UC.xF U3) (by decide) (by decide), ⟨?_, ?_⟩, ?_, ?_⟩
    · rw [eA 0 (by decide), eA 1 (by decide), eA 2 (by decide), eA 3 (by decide), eA 4 (by decide)]
      show (0 : Int32).toInt = _
      decide
    · intro m hm; rw [eA m hm]; decide
    · exact g3.trans e203
    · exact f3.trans e4
  generalize xI (xF w3 228 (fl (cA w3 228) 0 5)) 12 0 = w4 at h4 ⊢
  obtain ⟨U4, A4, g4, f4⟩ := h4
  rw [wq_bc, q_rewind]
  have h5 : PR u0 n (xI w4 5 0) 0 := ⟨UC.xI (k := 5) U4 (by decide) (by decide), A4, g4, f4, z0, by omega⟩
  have h6 : PR u0 n (xI (xI (xI (xI w4 13 0) 14 (-1)) 15 (-1)) 5 0) 0 := by
    have U6 : UC (xI (xI (xI (xI w4 13 0) 14 (-1)) 15 (-1)) 5 0) := by
      refine UC.xI (k := 5) (UC.xI (k := 15) (UC.xI (k := 14) (UC.xI (k := 13) U4 ?_ ?_) ?_ ?_) ?_ ?_) ?_ ?_ <;> decide
    exact ⟨U6, A4, g4, f4, z0, by omega⟩
  generalize xI (xI (xI (xI w4 13 0) 14 (-1)) 15 (-1)) 5 0 = w5 at h6 ⊢
  unfold LP_X3_make_57
  refine wq_lp (fun (d : Nat) (a : Int32 × CSt) => ∃ k c, PR u0 n a.2 k ∧ gItems u0 c k j ∧ d = n - k ∧ 0 ≤ a.1.toInt ∧ a.1.toInt ≤ (k : Int)) ?_ _ (n - 0) _ (by omega) ⟨0, c, h6, hD, rfl, by show 0 ≤ (0 : Int32).toInt; omega, by show (0 : Int32).toInt ≤ _; omega⟩
  clear hD
  rintro d R ⟨l, v⟩ ⟨k, c, hk, hg, hd, hl0, hlk⟩ ih
  dsimp only at hk hl0 hlk ⊢
  have hkn := hk.2.2.2.2.2
  unfold B_X3_make_57
  refine wq_if.mpr ⟨fun c1 => ?_, fun _ => ?_⟩
  · have c2 := Int32.lt_iff_toInt_lt.mp c1
    omega
  refine pis hb hk (fun _ => pen hk.uc) (fun c2 => ?_)
  cases c with
  | zero => exact absurd hg.1 c2
  | succ c =>
    obtain ⟨-, k', q1, q2⟩ := hg
    have lt1 := q1.lt2
    have el : (l + 1).toInt = l.toInt + 1 := by rw [tI_add (by rw [one_toInt]; omega) (by rw [one_toInt]; omega), one_toInt]
    have on : ∀ w : CSt, PR u0 n w k' → wq (B_X3_make_205 N R l w) (PS (fun (_ : Int32) w => UC w)) := by
      intro w hw
      have hkn2 := hw.2.2.2.2.2
      unfold B_X3_make_205
      exact ih (n - k') (l + 1, w) (by omega) ⟨k', c, hw, q2, rfl, by show 0 ≤ (l + 1).toInt; omega, by show (l + 1).toInt ≤ _; omega⟩
    refine pty hb hk ?_
    refine pnx hb hk q1.lt (fun _ w6 e6 h7 => ?_)
    have va : ∀ l2 : Int32, gVariables u0 k k' → wq (bt (F_X3_variables N 0 l2 w6) fun _ u_9 => B_X3_make_205 N R l u_9) (PS (fun (_ : Int32) w => UC w)) := fun l2 q => pbt (p_variables (ρ := 0) hb hN h7 (Or.inl rfl) q) (fun _ w8 h8 => on w8 h8.1)
    have pl : ∀ l2 : Int32, gPlaced u0 k k' → wq (bt (F_X3_placed N l2 w6) fun _ u_9 => B_X3_make_205 N R l u_9) (PS (fun (_ : Int32) w => UC w)) := fun l2 q => pbt (p_placed hb hN h7 q) (fun _ w8 h8 => on w8 h8)
    rcases q1 with ⟨t, q⟩ | ⟨t, q⟩ | ⟨t, q⟩ | ⟨t, q⟩ | ⟨t, qk, q⟩ | ⟨t, q⟩
    · rcases t with t | t
      · rw [t]
        exact wq_if.mpr ⟨fun _ => va _ q, fun c => absurd rfl c⟩
      · rw [t]
        refine wq_if.mpr ⟨fun c => absurd c (by decide), fun _ => ?_⟩
        exact wq_if.mpr ⟨fun _ => va _ q, fun c => absurd rfl c⟩
    · rcases t with t | t
      · rw [t]
        refine wq_if.mpr ⟨fun c => absurd c (by decide), fun _ => ?_⟩
        refine wq_if.mpr ⟨fun c => absurd c (by decide), fun _ => ?_⟩
        exact wq_if.mpr ⟨fun _ => pl _ q, fun c => absurd rfl c⟩
      · rw [t]
        refine wq_if.mpr ⟨fun c => absurd c (by decide), fun _ => ?_⟩
        refine wq_if.mpr ⟨fun c => absurd c (by decide), fun _ => ?_⟩
        refine wq_if.mpr ⟨fun c => absurd c (by decide), fun _ => ?_⟩
        exact wq_if.mpr ⟨fun _ => pl _ q, fun c => absurd rfl c⟩
    · rw [t]
      refine wq_if.mpr ⟨fun c => absurd c (by decide), fun _ => ?_⟩
      refine wq_if.mpr ⟨fun c => absurd c (by decide), fun _ => ?_⟩
      refine wq_if.mpr ⟨fun c => absurd c (by decide), fun _ => ?_⟩
      refine wq_if.mpr ⟨fun c => absurd c (by decide), fun _ => ?_⟩
      exact wq_if.mpr ⟨fun _ => pbt (p_routine hb hN h7 (Or.inl rfl) (by decide) (by decide) q) (fun _ w8 h8 => on w8 h8), fun c => absurd rfl c⟩
    · rw [t]
      refine wq_if.mpr ⟨fun c => absurd c (by decide), fun _ => ?_⟩
      refine wq_if.mpr ⟨fun c => absurd c (by decide), fun _ => ?_⟩
      refine wq_if.mpr ⟨fun c => absurd c (by decide), fun _ => ?_⟩
      refine wq_if.mpr ⟨fun c => absurd c (by decide), fun _ => ?_⟩
      refine wq_if.mpr ⟨fun c => absurd c (by decide), fun _ => ?_⟩
      exact wq_if.mpr ⟨fun _ => pbt (p_uses hb hN h7 q) (fun _ w8 h8 => on w8 h8), fun c => absurd rfl c⟩
    · rw [t]
      refine wq_if.mpr ⟨fun c => absurd c (by decide), fun _ => ?_⟩
      refine wq_if.mpr ⟨fun c => absurd c (by decide), fun _ => ?_⟩
      refine wq_if.mpr ⟨fun c => absurd c (by decide), fun _ => ?_⟩
      refine wq_if.mpr ⟨fun c => absurd c (by decide), fun _ => ?_⟩
      refine wq_if.mpr ⟨fun c => absurd c (by decide), fun _ => ?_⟩
      refine wq_if.mpr ⟨fun c => absurd c (by decide), fun _ => ?_⟩
      refine wq_if.mpr ⟨fun _ => ?_, fun c => absurd rfl c⟩
      refine ptkd hb h7 qk (fun r w8 e8 h8 k0 k4 => ?_)
      exact pbt (p_routine hb hN h8 (Or.inr rfl) k0 k4 q) (fun _ w9 h9 => on w9 h9)
    · rw [t]
      refine wq_if.mpr ⟨fun c => absurd c (by decide), fun _ => ?_⟩
      refine wq_if.mpr ⟨fun c => absurd c (by decide), fun _ => ?_⟩
      refine wq_if.mpr ⟨fun c => absurd c (by decide), fun _ => ?_⟩
      refine wq_if.mpr ⟨fun c => absurd c (by decide), fun _ => ?_⟩
      refine wq_if.mpr ⟨fun c => absurd c (by decide), fun _ => ?_⟩
      refine wq_if.mpr ⟨fun c => absurd c (by decide), fun _ => ?_⟩
      refine wq_if.mpr ⟨fun c => absurd c (by decide), fun _ => ?_⟩
      exact pbt (p_cyclic hb hN h7 q) (fun _ w8 h8 => on w8 h8)
end PMake
