/-! Items follow the derivation; the whole second pass; load. -/
section PItem2
variable {N n i j : Nat} {u0 u w : CSt}
theorem t32 {r : Int64} (h0 : 0 ≤ r.toInt) (h1 : r.toInt ≤ 1000000) : r.toInt32.toInt = r.toInt := by
  rw [Int64.toInt_toInt32]
  exact Int.bmod_eq_of_le (by omega) (by omega)
theorem p_allot {l1 l2 l3 : Int32} (hN : 5000000000 ≤ N) (h : PR u0 n u i) (h0 : 0 ≤ l1.toInt) (h4 : l1.toInt ≤ 4) (g0 : 0 ≤ l2.toInt) (g1 : l2.toInt ≤ 300) : wq (F_X3_allot N l1 l2 l3 u) (PJ u0 n i) := by
  obtain ⟨hU, hA, h3, h44, h5, h6⟩ := h
  obtain ⟨hs, hk⟩ := hA
  have hv : vp_in l1 5 := vin_iff.mpr ⟨h0, by omega⟩
  have e400 : (400 : Int32).toInt = 400 := by decide
  have el : l1.toNatClampNeg = l1.toInt.toNat := rfl
  have a0 := hk 0 (by decide)
  have a1 := hk 1 (by decide)
  have a2 := hk 2 (by decide)
  have a3 := hk 3 (by decide)
  have a4 := hk 4 (by decide)
  have al := hk l1.toNatClampNeg (by omega)
  have ev : (cA u 228 l1.toNatClampNeg + l2).toInt = (cA u 228 l1.toNatClampNeg).toInt + l2.toInt := by rw [tI_add (by omega) (by omega)]
  have ea : (cI u 12 + l2).toInt = (cI u 12).toInt + l2.toInt := by rw [tI_add (by omega) (by omega)]
  unfold F_X3_allot B_X3_allot_0
  refine wq_rd.mpr ⟨hv, wq_wc.mpr ⟨hv, wq_pc.mpr ?_⟩⟩
  have c12 : cI (xA u 228 l1.toNatClampNeg (cA u 228 l1.toNatClampNeg + l2)) 12 = cI u 12 := rfl
  rw [c12]
  have U1 : UC (xI (xA u 228 l1.toNatClampNeg (cA u 228 l1.toNatClampNeg + l2)) 12 (cI u 12 + l2)) := UC.xI (k := 12) (UC.xA hU) (show (0 : Int) ≤ (cI u 12 + l2).toInt by omega) (show (cI u 12 + l2).toInt ≤ (3500 : Int) by omega)
  have eA : ∀ m, cA (xI (xA u 228 l1.toNatClampNeg (cA u 228 l1.toNatClampNeg + l2)) 12 (cI u 12 + l2)) 228 m = if m = l1.toNatClampNeg then cA u 228 l1.toNatClampNeg + l2 else cA u 228 m := by
    intro m
    show (if 228 = 228 then upd (cA u 228) l1.toNatClampNeg (cA u 228 l1.toNatClampNeg + l2) else cA u 228) m = _
    rw [if_pos rfl]
    rfl
  have e203 : cA (xI (xA u 228 l1.toNatClampNeg (cA u 228 l1.toNatClampNeg + l2)) 12 (cI u 12 + l2)) 203 = cA u 203 := rfl
  have e12 : cI (xI (xA u 228 l1.toNatClampNeg (cA u 228 l1.toNatClampNeg + l2)) 12 (cI u 12 + l2)) 12 = cI u 12 + l2 := rfl
  have e4' : cI (xI (xA u 228 l1.toNatClampNeg (cA u 228 l1.toNatClampNeg + l2)) 12 (cI u 12 + l2)) 4 = cI u 4 := rfl
  have e5 : cI (xI (xA u 228 l1.toNatClampNeg (cA u 228 l1.toNatClampNeg + l2)) 12 (cI u 12 + l2)) 5 = cI u 5 := rfl
  generalize xI (xA u 228 l1.toNatClampNeg (cA u 228 l1.toNatClampNeg + l2)) 12 (cI u 12 + l2) = w at U1 eA e203 e12 e4' e5 ⊢
  refine wq_rd.mpr ⟨hv, ?_⟩
  have el0 : cA w 228 l1.toNatClampNeg = cA u 228 l1.toNatClampNeg + l2 := by rw [eA, if_pos rfl]
  refine wq_if.mpr ⟨fun c => ?_, fun _ => prf (α := Unit) hN U1⟩
  have c1 := Int32.le_iff_toInt_le.mp c
  rw [el0] at c1
  refine pen ⟨U1, ⟨?_, ?_⟩, e203.trans h3, e4'.trans h44, by rw [e5]; exact h5, h6⟩
  · rw [e12, eA 0, eA 1, eA 2, eA 3, eA 4]
    have : l1.toNatClampNeg = 0 ∨ l1.toNatClampNeg = 1 ∨ l1.toNatClampNeg = 2 ∨ l1.toNatClampNeg = 3 ∨ l1.toNatClampNeg = 4 := by omega
    rcases this with e | e | e | e | e <;> rw [e] at ev ⊢ <;> simp (decide := true) only [↓reduceIte] <;> omega
  · intro m hm
    rw [eA m]
    by_cases e : m = l1.toNatClampNeg
    · rw [if_pos e]; omega
    · rw [if_neg e]; exact hk m hm
theorem p_join {l1 : Nat} {l2 : Int32} {ρ : Nat} (hN : 5000000000 ≤ N) (h : PR u0 n u i) (ho : OW u ρ) (g0 : 0 ≤ (mI u l1 7).toInt) (g1 : (mI u l1 7).toInt ≤ 200) : wq (F_X3_join N l1 l2 u) (PS (fun (_ : Int32) w => PR u0 n w i ∧ OW w ρ)) := by
  obtain ⟨o1, o2, o3, o4⟩ := ho
  have hq := h.uc.r 2
  have r12 : (0 : Int) ≤ (pI u (cR u 2) 12).toInt ∧ (pI u (cR u 2) 12).toInt ≤ 160 := h.uc.p (cR u 2) 12
  have r7 : (0 : Int) ≤ (mI u ρ 7).toInt ∧ (mI u ρ 7).toInt ≤ 300 := h.uc.m ρ 7
  unfold F_X3_join B_X3_join_0
  refine pok hq ?_
  have hname : wq (F_X6_name N (cR u 2) (pI u (cR u 2) 15) u) (VR (fun r => r = ρ ∧ r < 338) u) := by
    have el : (pI u (cR u 2) 15).toNatClampNeg = (pI u (cR u 2) 15).toInt.toNat := rfl
    have e0 : (0 : Int32).toInt = 0 := by decide
    unfold F_X6_name B_X6_name_0
    refine wq_if.mpr ⟨fun c => ?_, fun _ => wq_if.mpr ⟨fun c => ?_, fun _ => wq_ix.mpr ⟨vin_iff.mpr ⟨o2, by omega⟩, wq_some.mpr ⟨rfl, by omega, by omega⟩⟩⟩⟩
    · have c1 := Int32.lt_iff_toInt_lt.mp c
      omega
    · have c1 := Int32.le_iff_toInt_le.mp c
      omega
  refine wq_bcR hname (fun r hr => ?_)
  obtain ⟨hr1, hr2⟩ := hr
  subst hr1
  refine pok hr2 (wq_pc.mpr (wq_pc.mpr (wq_pc.mpr ?_)))
  have h1 : PR u0 n (xmI u l1 9 (mI u r 7)) i := h.xm (k := 9) (show (0 : Int) ≤ (mI u r 7).toInt by omega) (show (mI u r 7).toInt ≤ (3500 : Int) by omega)
  have e7 : ∀ p, mI (xmI u l1 9 (mI u r 7)) p 7 = mI u p 7 := fun p => mI_ne (Or.inr (by decide))
  have e12 : pI (xmI u l1 9 (mI u r 7)) = pI u := rfl
  have eR : cR (xmI u l1 9 (mI u r 7)) = cR u := rfl
  generalize xmI u l1 9 (mI u r 7) = w1 at h1 e7 e12 eR ⊢
  rw [e7, e7]
  have es : (mI u r 7 + mI u l1 7).toInt = (mI u r 7).toInt + (mI u l1 7).toInt := by rw [tI_add (by omega) (by omega)]
  have h2 : PR u0 n (xmI w1 r 7 (mI u r 7 + mI u l1 7)) i := h1.xm (k := 7) (show (0 : Int) ≤ (mI u r 7 + mI u l1 7).toInt by omega) (show (mI u r 7 + mI u l1 7).toInt ≤ (300 : Int) by omega)
  have f12 : pI (xmI w1 r 7 (mI u r 7 + mI u l1 7)) = pI u := e12
  have fR : cR (xmI w1 r 7 (mI u r 7 + mI u l1 7)) = cR u := eR
  generalize xmI w1 r 7 (mI u r 7 + mI u l1 7) = w2 at h2 f12 fR ⊢
  have b12 := i32_b (mI w2 r 12 + 1)
  have h3 : PR u0 n (xmI w2 r 12 (mI w2 r 12 + 1)) i := h2.xm (k := 12) (show (-2147483648 : Int) ≤ (mI w2 r 12 + 1).toInt by omega) (show (mI w2 r 12 + 1).toInt ≤ (2147483647 : Int) by omega)
  have k12 : pI (xmI w2 r 12 (mI w2 r 12 + 1)) = pI u := f12
  have kR : cR (xmI w2 r 12 (mI w2 r 12 + 1)) = cR u := fR
  generalize xmI w2 r 12 (mI w2 r 12 + 1) = w3 at h3 k12 kR ⊢
  have fin : ∀ s1 s2 : Int32, wq (B_X3_join_64 N l2 r r s1 s2 w3) (PS (fun (_ : Int32) w => PR u0 n w i ∧ OW w r)) := by
    intro s1 s2
    unfold B_X3_join_64
    have b := i32_b (s1 + s2)
    have h4 : PR u0 n (xmI w3 r 11 (s1 + s2)) i := h3.xm (k := 11) (show (-2147483648 : Int) ≤ (s1 + s2).toInt by omega) (show (s1 + s2).toInt ≤ (2147483647 : Int) by omega)
    have m12 : pI (xmI w3 r 11 (s1 + s2)) = pI u := k12
    have mR : cR (xmI w3 r 11 (s1 + s2)) = cR u := kR
    refine wq_pc.mpr ?_
    generalize xmI w3 r 11 (s1 + s2) = w4 at h4 m12 mR ⊢
    refine wq_if.mpr ⟨fun c => ?_, fun _ => prf (α := Unit) hN h4.uc⟩
    have c1 := Int32.le_iff_toInt_le.mp c
    have e100 : (100 : Int32).toInt = 100 := by decide
    refine pen ⟨h4, ?_, ?_, ?_, by omega⟩
    · rw [mR, m12]; exact o1
    · rw [mR, m12]; exact o2
    · rw [mR, m12]; exact o3
  exact wq_if.mpr ⟨fun _ => fin _ _, fun _ => fin _ _⟩
theorem p_oneVariable {l1 l2 l3 : Int32} {ρ : Nat} (hb : TB u0 n) (hN : 5000000000 ≤ N) (h : PR u0 n u i) (ho : l1 = 0 ∨ (l1 = 6 ∧ OW u ρ)) (k0 : 0 ≤ l3.toInt) (k4 : l3.toInt ≤ 4) (hD : gVar u0 i j) : wq (F_X3_oneVariable N l1 l2 l3 u) (PS (fun (_ : Int32) w => PR u0 n w j ∧ (l1 = 6 → OW w ρ))) := by
  obtain ⟨t0, k, hk, hv⟩ := hD
  have b2 := i32_b l2
  have hl0 : 0 ≤ l1.toInt := by rcases ho with e | ⟨e, -⟩ <;> rw [e] <;> decide
  unfold F_X3_oneVariable B_X3_oneVariable_0
  refine wq_bcR (v_X9_here hN h.uc) (fun pl _ => ?_)
  refine pbt (p_newName hb hN h (nE t0 (by decide) (by decide) (by decide)) hl0) (fun r w1 hw => ?_)
  obtain ⟨h1, hn⟩ := hw
  refine pok hn.2.1 (wq_pc.mpr (wq_pc.mpr (wq_pc.mpr ?_)))
  have o1 : l1 = 6 → OW w1 ρ ∧ ρ ≠ r := by
    intro e
    rcases ho with q | ⟨-, q⟩
    · rw [q] at e; exact absurd e (by decide)
    · exact hn.ow q
  have h2 : PR u0 n (xmI w1 r 6 l2) (i + 1) := h1.xm (k := 6) (show (-2147483648 : Int) ≤ l2.toInt by omega) (show l2.toInt ≤ (2147483647 : Int) by omega)
  have o2 : l1 = 6 → OW (xmI w1 r 6 l2) ρ ∧ ρ ≠ r := fun e => ⟨(o1 e).1.xm (Or.inl (o1 e).2), (o1 e).2⟩
  generalize xmI w1 r 6 l2 = w2 at h2 o2 ⊢
  have h3 : PR u0 n (xmI w2 r 5 l3) (i + 1) := h2.xm (k := 5) (show (0 : Int) ≤ l3.toInt by omega) (show l3.toInt ≤ (4 : Int) by omega)
  have o3 : l1 = 6 → OW (xmI w2 r 5 l3) ρ ∧ ρ ≠ r := fun e => ⟨(o2 e).1.xm (Or.inl (o2 e).2), (o2 e).2⟩
  generalize xmI w2 r 5 l3 = w3 at h3 o3 ⊢
  have h4 : PR u0 n (xmI w3 r 7 1) (i + 1) := h3.xm (k := 7) (by decide) (by decide)
  have o4 : l1 = 6 → OW (xmI w3 r 7 1) ρ ∧ ρ ≠ r := fun e => ⟨(o3 e).1.xm (Or.inl (o3 e).2), (o3 e).2⟩
  have s4 : mI (xmI w3 r 7 1) r 7 = 1 := mI_eq
  generalize xmI w3 r 7 1 = w4 at h4 o4 s4 ⊢
  -- the last part: the number is allotted, or the name joins its routine
  have e112 : ∀ w : CSt, PR u0 n w j → (l1 = 6 → OW w ρ ∧ ρ ≠ r) → (mI w r 7).toInt ≤ 200 → wq (B_X3_oneVariable_112 N l1 l3 pl r w) (PS (fun (_ : Int32) w => PR u0 n w j ∧ (l1 = 6 → OW w ρ))) := by
    intro w hw how hs
    have r7 : (0 : Int) ≤ (mI w r 7).toInt ∧ (mI w r 7).toInt ≤ 300 := hw.uc.m r 7
    unfold B_X3_oneVariable_112
    refine wq_if.mpr ⟨fun c => ?_, fun c => ?_⟩
    · have r12 : (0 : Int) ≤ (cI w 12).toInt ∧ (cI w 12).toInt ≤ 3500 := hw.uc.i 12
      have h5 : PR u0 n (xmI w r 9 (cI w 12)) j := hw.xm (k := 9) (show (0 : Int) ≤ (cI w 12).toInt by omega) (show (cI w 12).toInt ≤ (3500 : Int) by omega)
      refine wq_pc.mpr ?_
      have r7' : (0 : Int) ≤ (mI (xmI w r 9 (cI w 12)) r 7).toInt ∧ (mI (xmI w r 9 (cI w 12)) r 7).toInt ≤ 300 := h5.uc.m r 7
      refine pbt (p_allot hN h5 k0 k4 r7'.1 r7'.2) (fun _ w6 h6 => pen ⟨h6, fun e => ?_⟩)
      rw [c] at e; exact absurd e (by decide)
    · have e6 : l1 = 6 := by
        rcases ho with q | ⟨q, -⟩
        · exact absurd q c
        · exact q
      refine pbt (p_join hN hw (how e6).1 r7.1 hs) (fun _ w6 h6 => pen ⟨h6.1, fun _ => h6.2⟩)
  have e83 : ∀ w : CSt, PR u0 n w k → (l1 = 6 → OW w ρ ∧ ρ ≠ r) → (mI w r 7).toInt ≤ 200 → wq (B_X3_oneVariable_83 N l1 l3 pl r w) (PS (fun (_ : Int32) w => PR u0 n w j ∧ (l1 = 6 → OW w ρ))) := by
    intro w hw how hs
    unfold B_X3_oneVariable_83
    refine pis hb hw (fun c => ?_) (fun c => ?_)
    · rcases hv with ⟨q, -⟩ | ⟨-, q⟩
      · exact absurd c q
      · refine pnx hb hw (nE c (by decide) (by decide) (by decide)) (fun _ w5 e5 h5 => ?_)
        refine pbt (p_constant hb hN h5 q) (fun r6 w6 h6 => wq_pc.mpr ?_)
        obtain ⟨h6, e6⟩ := h6
        have e : w6.2 = w.2 := e6.trans e5
        have em : mI w6 r 7 = mI w r 7 := by show w6.2.2.2.2.2.2.2.2.1 r 7 = _; rw [e]
        have om : l1 = 6 → OW w6 ρ ∧ ρ ≠ r := fun x => ⟨(how x).1.same e, (how x).2⟩
        refine e112 (xmL w6 r 10 r6) ?_ ?_ ?_
        · exact h6
        · exact om
        · show (mI w6 r 7).toInt ≤ 200
          rw [em]; exact hs
    · rcases hv with ⟨-, q⟩ | ⟨q, -⟩
      · subst q; exact e112 w hw how hs
      · exact absurd q c
  refine pis hb h4 (fun c => ?_) (fun c => ?_)
  · rcases hk with ⟨q, -⟩ | ⟨-, q1, q2, q3⟩
    · exact absurd c q
    · subst q3
      refine pnx hb h4 (nE c (by decide) (by decide) (by decide)) (fun _ w5 e5 h5 => wq_pc.mpr ?_)
      have o5 : l1 = 6 → OW w5 ρ ∧ ρ ≠ r := fun x => ⟨(o4 x).1.same e5, (o4 x).2⟩
      have h6 : PR u0 n (xmI w5 r 8 1) (i + 2) := h5.xm (k := 8) (by decide) (by decide)
      have o6 : l1 = 6 → OW (xmI w5 r 8 1) ρ ∧ ρ ≠ r := fun e => ⟨(o5 e).1.xm (Or.inl (o5 e).2), (o5 e).2⟩
      generalize xmI w5 r 8 1 = w6 at h6 o6 ⊢
      refine ptb hb hN h6 (nE q1 (by decide) (by decide) (by decide)) (fun v w7 e7 h7 v0 v1 => wq_pc.mpr ?_)
      have v0' : (1 : Int) ≤ v.toInt := by have := Int64.le_iff_toInt_le.mp v0; have e : (1 : Int64).toInt = 1 := by decide
                                           omega
      have v1' : v.toInt ≤ (200 : Int) := by have := Int64.le_iff_toInt_le.mp v1; have e : (200 : Int64).toInt = 200 := by decide
                                             omega
      have ev := t32 (r := v) (by omega) (by omega)
      have o7 : l1 = 6 → OW w7 ρ ∧ ρ ≠ r := fun x => ⟨(o6 x).1.same e7, (o6 x).2⟩
      have h8 : PR u0 n (xmI w7 r 7 v.toInt32) (i + 3) := h7.xm (k := 7) (show (0 : Int) ≤ v.toInt32.toInt by omega) (show v.toInt32.toInt ≤ (300 : Int) by omega)
      have o8 : l1 = 6 → OW (xmI w7 r 7 v.toInt32) ρ ∧ ρ ≠ r := fun e => ⟨(o7 e).1.xm (Or.inl (o7 e).2), (o7 e).2⟩
      have s8 : mI (xmI w7 r 7 v.toInt32) r 7 = v.toInt32 := mI_eq
      generalize xmI w7 r 7 v.toInt32 = w8 at h8 o8 s8 ⊢
      refine pnx hb h8 (nE q2 (by decide) (by decide) (by decide)) (fun _ w9 e9 h9 => ?_)
      have em : mI w9 r 7 = mI w8 r 7 := by show w9.2.2.2.2.2.2.2.2.1 r 7 = _; rw [e9]
      exact e83 w9 h9 (fun x => ⟨(o8 x).1.same e9, (o8 x).2⟩) (by rw [em, s8]; omega)
  · rcases hk with ⟨-, q⟩ | ⟨q, -⟩
    · subst q; exact e83 w4 h4 o4 (by rw [s4]; decide)
    · exact absurd q c
theorem gVar.lt (h : gVar u0 i j) : i < j := by
  obtain ⟨-, k, hk, hv⟩ := h
  have : i + 1 ≤ k := by rcases hk with ⟨-, e⟩ | ⟨-, -, -, e⟩ <;> omega
  rcases hv with ⟨-, e⟩ | ⟨-, e⟩
  · omega
  · have := e.lt; omega
theorem p_variables {l1 l2 : Int32} {ρ : Nat} (hb : TB u0 n) (hN : 5000000000 ≤ N) (h : PR u0 n u (i + 1)) (ho : l1 = 0 ∨ (l1 = 6 ∧ OW u ρ)) (hD : gVariables u0 i j) : wq (F_X3_variables N l1 l2 u) (PS (fun (_ : Int32) w => PR u0 n w j ∧ (l1 = 6 → OW w ρ))) := by
  obtain ⟨hk, k, c, hv, hl⟩ := hD
  have hb1 := hb.2.1
  have z0 : (0 : Int32).toInt = 0 := by decide
  have e15 : (1500 : Int32).toInt = 1500 := by decide
  unfold F_X3_variables B_X3_variables_0
  refine ptkd hb h hk (fun r w e1 h1 k0 k4 => ?_)
  have ho1 : l1 = 0 ∨ (l1 = 6 ∧ OW w ρ) := by
    rcases ho with q | ⟨q, q2⟩
    · exact Or.inl q
    · exact Or.inr ⟨q, q2.same e1⟩
  refine pbt (p_oneVariable hb hN h1 ho1 k0 k4 hv) (fun _ w2 hw => ?_)
  obtain ⟨h2, o2⟩ := hw
  unfold LP_X3_variables_18
  refine wq_lp (fun (d : Nat) (a : Int32 × Int32 × Int32 × Int32 × CSt) => a.1 = l1 ∧ 0 ≤ a.2.2.1.toInt ∧ a.2.2.1.toInt ≤ 4 ∧ (l1 = 6 → OW a.2.2.2.2 ρ) ∧ ∃ k c, PR u0 n a.2.2.2.2 k ∧ gVl u0 c k j ∧ d = n - k ∧ 0 ≤ a.2.2.2.1.toInt ∧ a.2.2.2.1.toInt ≤ (k : Int)) ?_ _ (n - k) _ (by omega) ⟨rfl, k0, k4, o2, k, c, h2, hl, rfl, by show 0 ≤ (0 : Int32).toInt; omega, by show (0 : Int32).toInt ≤ _; omega⟩
  clear hl h2 o2
  rintro d R ⟨m1, m2, m3, m4, v⟩ ⟨em, k0, k4, o3, k, c, hk, hg, hd, hl0, hlk⟩ ih
  dsimp only at em k0 k4 o3 hk hl0 hlk ⊢
  subst em
  have hkn := hk.2.2.2.2.2
  have hn : ¬ isEnd (tyF u0 k) := by
    cases c with
    | zero => exact nE hg.2.1 (by decide) (by decide) (by decide)
    | succ c => exact nE hg.1 (by decide) (by decide) (by decide)
  have hlt := hk.lt hb hn
  unfold B_X3_variables_18
  refine wq_if.mpr ⟨fun c1 => ?_, fun _ => ?_⟩
  · have c2 := Int32.le_iff_toInt_le.mp c1
    omega
  refine pis hb hk (fun c2 => ?_) (fun c2 => ?_)
  · cases c with
    | zero => exact absurd c2 hg.1
    | succ c =>
      obtain ⟨-, k', q1, q2⟩ := hg
      have lt1 := q1.lt
      refine pnx hb hk hn (fun _ w3 e3 h3 => ?_)
      have ho3 : m1 = 0 ∨ (m1 = 6 ∧ OW w3 ρ) := by
        rcases ho with q | ⟨q, -⟩
        · exact Or.inl q
        · exact Or.inr ⟨q, (o3 q).same e3⟩
      refine pbt (p_oneVariable hb hN h3 ho3 k0 k4 q1) (fun _ w4 hw4 => ?_)
      have hkn2 := hw4.1.2.2.2.2.2
      have el : (m4 + 1).toInt = m4.toInt + 1 := by rw [tI_add (by rw [one_toInt]; omega) (by rw [one_toInt]; omega), one_toInt]
      exact ih (n - k') (m1, m2, m3, m4 + 1, w4) (by omega) ⟨rfl, k0, k4, hw4.2, k', c, hw4.1, q2, rfl, by show 0 ≤ (m4 + 1).toInt; omega, by show (m4 + 1).toInt ≤ _; omega⟩
  · cases c with
    | zero =>
      unfold B_X3_variables_58
      rw [hg.2.2]
      exact pnx hb hk hn (fun _ w3 e3 h3 => pen ⟨h3, fun e => (o3 e).same e3⟩)
    | succ c => exact absurd hg.1 c2
theorem p_placed {l1 : Int32} (hb : TB u0 n) (hN : 5000000000 ≤ N) (h : PR u0 n u (i + 1)) (hD : gPlaced u0 i j) : wq (F_X3_placed N l1 u) (PJ u0 n j) := by
  obtain ⟨hk, t2, t3, t4, t5, e⟩ := hD
  subst e
  have b1 := i32_b l1
  unfold F_X3_placed B_X3_placed_0
  refine ptkd hb h hk (fun r w e1 h1 k0 k4 => ?_)
  refine pbt (p_newName hb hN h1 (nE t2 (by decide) (by decide) (by decide)) (by decide)) (fun nm w1 hw => ?_)
  obtain ⟨h2, hn⟩ := hw
  refine pok hn.2.1 (wq_pc.mpr (wq_pc.mpr (wq_pc.mpr ?_)))
  have h3 : PR u0 n (xmI w1 nm 6 l1) (i + 3) := h2.xm (k := 6) (show (-2147483648 : Int) ≤ l1.toInt by omega) (show l1.toInt ≤ (2147483647 : Int) by omega)
  generalize xmI w1 nm 6 l1 = w2 at h3 ⊢
  have h4 : PR u0 n (xmI w2 nm 5 r) (i + 3) := h3.xm (k := 5) (show (0 : Int) ≤ r.toInt by omega) (show r.toInt ≤ (4 : Int) by omega)
  generalize xmI w2 nm 5 r = w3 at h4 ⊢
  have h5 : PR u0 n (xmI w3 nm 7 1) (i + 3) := h4.xm (k := 7) (by decide) (by decide)
  generalize xmI w3 nm 7 1 = w4 at h5 ⊢
  refine pnx hb h5 (nE t3 (by decide) (by decide) (by decide)) (fun _ w5 _ h6 => ?_)
  refine wq_rd.mpr ⟨vin_iff.mpr ⟨k0, by omega⟩, ?_⟩
  refine ptb hb hN h6 (nE t4 (by decide) (by decide) (by decide)) (fun v w7 e7 h7 v0 v1 => wq_pc.mpr ?_)
  have v0' : (0 : Int) ≤ v.toInt := by have := Int64.le_iff_toInt_le.mp v0; have e : (0 : Int64).toInt = 0 := by decide
                                       omega
  have v1' : v.toInt ≤ (64 : Int) := by
    have q := Int64.le_iff_toInt_le.mp v1
    have er : r.toNatClampNeg = r.toInt.toNat := rfl
    have : r.toNatClampNeg = 0 ∨ r.toNatClampNeg = 1 ∨ r.toNatClampNeg = 2 ∨ r.toNatClampNeg = 3 ∨ r.toNatClampNeg = 4 := by omega
    have m : ((64 - ((bt_0.getD r.toNatClampNeg 0) / 8)).toInt64).toInt ≤ 64 := by
      rcases this with e | e | e | e | e <;> rw [e] <;> decide
    exact Int.le_trans q m
  have ev := t32 (r := v) (by omega) (by omega)
  have h8 : PR u0 n (xmI w7 nm 9 v.toInt32) (i + 5) := h7.xm (k := 9) (show (0 : Int) ≤ v.toInt32.toInt by omega) (show v.toInt32.toInt ≤ (3500 : Int) by omega)
  exact pnx hb h8 (nE t5 (by decide) (by decide) (by decide)) (fun _ w9 _ h9 => pen h9)
theorem p_oneUse {l1 : Nat} (hb : TB u0 n) (hN : 5000000000 ≤ N) (h : PR u0 n u i) (t0 : tyF u0 i = 128) : wq (F_X3_oneUse N l1 u) (PJ u0 n (i + 1)) := by
  unfold F_X3_oneUse B_X3_oneUse_0
  refine wq_bcR (v_X9_here hN h.uc) (fun pl _ => ?_)
  refine pbt (p_newName hb hN h (nE t0 (by decide) (by decide) (by decide)) (by decide)) (fun nm w1 hw => ?_)
  obtain ⟨h2, hn⟩ := hw
  refine pok hn.2.1 (wq_pc.mpr (wq_pc.mpr ?_))
  have b1 := i32_b (mI w1 l1 3)
  have h3 : PR u0 n (xmI w1 nm 14 (mI w1 l1 3)) (i + 1) := h2.xm (k := 14) (show (-2147483648 : Int) ≤ (mI w1 l1 3).toInt by omega) (show (mI w1 l1 3).toInt ≤ (2147483647 : Int) by omega)
  generalize xmI w1 nm 14 (mI w1 l1 3) = w2 at h3 ⊢
  have r12 : (0 : Int) ≤ (cI w2 12).toInt ∧ (cI w2 12).toInt ≤ 3500 := h3.uc.i 12
  have h4 : PR u0 n (xmI w2 nm 9 (cI w2 12)) (i + 1) := h3.xm (k := 9) (show (0 : Int) ≤ (cI w2 12).toInt by omega) (show (cI w2 12).toInt ≤ (3500 : Int) by omega)
  generalize xmI w2 nm 9 (cI w2 12) = w3 at h4 ⊢
  have z0 : (0 : Int32).toInt = 0 := by decide
  unfold LP_X3_oneUse_33
  refine wq_lp (fun (d : Nat) (a : Nat × Int32 × Int32 × CSt) => PR u0 n a.2.2.2 (i + 1) ∧ d = (2147483648 - a.2.2.1.toInt).toNat) ?_ _ ((2147483648 - (0 : Int32).toInt).toNat) _ (by omega) ⟨h4, rfl⟩
  rintro d R ⟨m1, m2, m4, v⟩ ⟨hp, hd⟩ ih
  dsimp only at hp hd ⊢
  unfold B_X3_oneUse_33
  refine wq_if.mpr ⟨fun _ => pen hp, fun c => pok (hp.uc.r 2) ?_⟩
  have c1 := Int32.lt_iff_toInt_lt.mp (Int32.not_le.mp c)
  have b2 := i32_b (mI v m1 12)
  have b3 := i32_b m4
  refine wq_bcR (v_X6_local hN hp.uc (hp.uc.r 2)) (fun r hr => pok hr ?_)
  have r5 : (0 : Int) ≤ (mI v r 5).toInt ∧ (mI v r 5).toInt ≤ 4 := hp.uc.m r 5
  have r7 : (0 : Int) ≤ (mI v r 7).toInt ∧ (mI v r 7).toInt ≤ 300 := hp.uc.m r 7
  refine pbt (p_allot hN hp r5.1 r5.2 r7.1 r7.2) (fun _ w6 h6 => ?_)
  have el : (m4 + 1).toInt = m4.toInt + 1 := by rw [tI_add (by rw [one_toInt]; omega) (by rw [one_toInt]; omega), one_toInt]
  exact ih ((2147483648 - (m4 + 1).toInt).toNat) (m1, m2, m4 + 1, w6) (by omega) ⟨h6, rfl⟩
theorem p_uses (hb : TB u0 n) (hN : 5000000000 ≤ N) (h : PR u0 n u (i + 1)) (hD : gUses u0 i j) : wq (F_X3_uses N u) (PJ u0 n j) := by
  obtain ⟨t1, t2, c, hl⟩ := hD
  have hb1 := hb.2.1
  have z0 : (0 : Int32).toInt = 0 := by decide
  have e15 : (1500 : Int32).toInt = 1500 := by decide
  unfold F_X3_uses B_X3_uses_0
  refine wq_bcR (v_X8_known hN h.uc) (fun r hr => pok hr ?_)
  refine wq_if.mpr ⟨fun _ => ?_, fun _ => ?_⟩
  · unfold B_X3_uses_31
    refine pnx hb h (nE t1 (by decide) (by decide) (by decide)) (fun _ w1 _ h1 => ?_)
    refine pbt (p_oneUse hb hN h1 t2) (fun _ w2 h2 => ?_)
    unfold LP_X3_uses_45
    refine wq_lp (fun (d : Nat) (a : Nat × Int32 × CSt) => ∃ k c, PR u0 n a.2.2 k ∧ gNl u0 c k j ∧ d = n - k ∧ 0 ≤ a.2.1.toInt ∧ a.2.1.toInt ≤ (k : Int)) ?_ _ (n - (i + 3)) _ (by omega) ⟨i + 3, c, h2, hl, rfl, by show 0 ≤ (0 : Int32).toInt; omega, by show (0 : Int32).toInt ≤ _; omega⟩
    clear hl
    rintro d R ⟨m1, m2, v⟩ ⟨k, c, hk, hg, hd, hl0, hlk⟩ ih
    dsimp only at hk hl0 hlk ⊢
    have hkn := hk.2.2.2.2.2
    have hn : ¬ isEnd (tyF u0 k) := by
      cases c with
      | zero => exact nE hg.2.1 (by decide) (by decide) (by decide)
      | succ c => exact nE hg.1 (by decide) (by decide) (by decide)
    have hlt := hk.lt hb hn
    unfold B_X3_uses_45
    refine wq_if.mpr ⟨fun c1 => ?_, fun _ => ?_⟩
    · have c2 := Int32.le_iff_toInt_le.mp c1
      omega
    refine pis hb hk (fun c2 => ?_) (fun c2 => ?_)
    · cases c with
      | zero => exact absurd c2 hg.1
      | succ c =>
        obtain ⟨-, q1, q2⟩ := hg
        refine pnx hb hk hn (fun _ w3 e3 h3 => ?_)
        refine pbt (p_oneUse hb hN h3 q1) (fun _ w4 h4 => ?_)
        have hkn2 := h4.2.2.2.2.2
        have el : (m2 + 1).toInt = m2.toInt + 1 := by rw [tI_add (by rw [one_toInt]; omega) (by rw [one_toInt]; omega), one_toInt]
        exact ih (n - (k + 2)) (m1, m2 + 1, w4) (by omega) ⟨k + 2, c, h4, q2, rfl, by show 0 ≤ (m2 + 1).toInt; omega, by show (m2 + 1).toInt ≤ _; omega⟩
    · cases c with
      | zero =>
        unfold B_X3_uses_82
        rw [hg.2.2]
        exact pnx hb hk hn (fun _ w3 e3 h3 => pen h3)
      | succ c => exact absurd hg.1 c2
  · refine wq_bcR (v_X9_here hN h.uc) (fun pl _ => ?_)
    exact prf (α := Unit) hN h.uc
end PItem2
