/-! Items: names are added, numbers allotted. -/
section PItem
variable {N n i j : Nat} {u0 u w : CSt}
theorem wq_and {β : Type} {X : Option (β × CSt)} {P Q : β → CSt → Prop} (h1 : wq X P) (h2 : wq X Q) : wq X (fun r w => P r w ∧ Q r w) := by
  obtain ⟨r, w, e, h⟩ := h1
  obtain ⟨r', w', e', h'⟩ := h2
  rw [e] at e'
  cases e'
  exact ⟨r, w, e, h, h'⟩
theorem mI_ne {q k : Nat} {v : Int32} {p m : Nat} (h : p ≠ q ∨ m ≠ k) : mI (xmI u q k v) p m = mI u p m := by
  show (if p = q then (if m = k then v else mI u p m) else mI u p m) = _
  by_cases e : p = q
  · rw [if_pos e, if_neg (by omega)]
  · rw [if_neg e]
theorem mI_eq {q k : Nat} {v : Int32} : mI (xmI u q k v) q k = v := by
  show (if q = q then (if k = k then v else mI u q k) else mI u q k) = v
  rw [if_pos rfl, if_pos rfl]
theorem pI_ne {q k : Nat} {v : Int32} {p m : Nat} (h : p ≠ q ∨ m ≠ k) : pI (xpI u q k v) p m = pI u p m := by
  show (if p = q then (if m = k then v else pI u p m) else pI u p m) = _
  by_cases e : p = q
  · rw [if_pos e, if_neg (by omega)]
  · rw [if_neg e]
theorem pI_eq {q k : Nat} {v : Int32} : pI (xpI u q k v) q k = v := by
  show (if q = q then (if k = k then v else pI u q k) else pI u q k) = v
  rw [if_pos rfl, if_pos rfl]
theorem uc_xpS {q m : Nat} {v : Int32} (h : UC u) (h1 : 0 ≤ v.toInt) (h2 : v.toInt ≤ 160) (h3 : m = 2 → v.toInt ≤ 8) : UC (xpA u q 9 m v) := by
  refine ⟨h.1, h.2.1, fun p j => ?_, h.2.2.2.1, h.2.2.2.2.1, h.2.2.2.2.2.1, fun p j => ?_⟩
  · by_cases e : p = q ∧ j.toNatClampNeg = m
    · rw [e.1, e.2, pA_eq]
      refine ⟨h1, h2, fun q => h3 ?_⟩
      have : j.toNatClampNeg = j.toInt.toNat := rfl
      omega
    · rw [pA_ne2 (by omega)]; exact h.s p j
  · rw [pA_ne (by decide), pA_ne (by decide)]; exact h.g p j
theorem uc_xpE {q : Nat} (h : UC u) : UC (xpF u q 9 (fl (pA u q 9) 0 5)) := by
  have e : ∀ p m, m ≠ 9 → pA (xpF u q 9 (fl (pA u q 9) 0 5)) p m = pA u p m := by
    intro p m hm
    show (if p = q then (if m = 9 then fl (pA u q 9) 0 5 else pA u p m) else pA u p m) = _
    by_cases e : p = q
    · rw [if_pos e, if_neg hm]
    · rw [if_neg e]
  refine ⟨h.1, h.2.1, fun p j => ?_, h.2.2.2.1, h.2.2.2.2.1, h.2.2.2.2.2.1, fun p j => ?_⟩
  · show 0 ≤ ((if p = q then (if 9 = 9 then fl (pA u q 9) 0 5 else pA u p 9) else pA u p 9) j.toNatClampNeg).toInt ∧ ((if p = q then (if 9 = 9 then fl (pA u q 9) 0 5 else pA u p 9) else pA u p 9) j.toNatClampNeg).toInt ≤ 160 ∧ (j.toInt = 2 → ((if p = q then (if 9 = 9 then fl (pA u q 9) 0 5 else pA u p 9) else pA u p 9) j.toNatClampNeg).toInt ≤ 8)
    by_cases e : p = q
    · rw [if_pos e, if_pos rfl]
      unfold fl
      by_cases e2 : j.toNatClampNeg < 5
      · rw [if_pos e2]; exact ⟨by decide, by decide, fun _ => by decide⟩
      · rw [if_neg e2]; exact h.s q j
    · rw [if_neg e]; exact h.s p j
  · rw [e p 11 (by decide), e p 13 (by decide)]; exact h.g p j
theorem v_X6_empty (hq : n < 2) (h : UC u) : wq (F_X6_empty N n u) (VP [] (fun (r : Int32) (w : CSt) => True) u) := by
  unfold F_X6_empty B_X6_empty_0
  refine wq_pc.mpr (wq_pc.mpr (wq_pc.mpr (wq_pc.mpr (wq_pc.mpr (wq_some.mpr ⟨?_, ⟨fun _ _ => rfl, fun _ _ _ => rfl⟩, trivial⟩)))))
  refine uc_xpE ?_
  refine UC.xpI (k := 15) (UC.xpI (k := 14) (UC.xpI (k := 13) (UC.xpI (k := 12) h ?_ ?_) ?_ ?_) ?_ ?_) ?_ ?_ <;> decide
theorem PR.xm {q k : Nat} {v : Int32} (h : PR u0 n u i) (h1 : (rM k).1 ≤ v.toInt) (h2 : v.toInt ≤ (rM k).2) : PR u0 n (xmI u q k v) i := ⟨UC.xmI h.1 h1 h2, h.2⟩
/-- the open routine: its name, not full -/
def OW (u : CSt) (ρ : Nat) : Prop := ρ = 169 * cR u 2 + (pI u (cR u 2) 15).toInt.toNat ∧ 0 ≤ (pI u (cR u 2) 15).toInt ∧ (pI u (cR u 2) 15).toInt < (pI u (cR u 2) 12).toInt ∧ (mI u ρ 7).toInt ≤ 100
theorem OW.same {ρ : Nat} (h : OW u ρ) (e : w.2 = u.2) : OW w ρ := by
  have e1 : cR w = cR u := by show w.2.2.2.2.2.2.2.2.2.2 = u.2.2.2.2.2.2.2.2.2.2; rw [e]
  have e2 : pI w = pI u := by show w.2.2.2.2.1 = u.2.2.2.2.1; rw [e]
  have e3 : mI w = mI u := by show w.2.2.2.2.2.2.2.2.1 = u.2.2.2.2.2.2.2.2.1; rw [e]
  unfold OW
  rw [e1, e2, e3]
  exact h
theorem OW.xm {ρ q k : Nat} {v : Int32} (h : OW u ρ) (hk : ρ ≠ q ∨ 7 ≠ k) : OW (xmI u q k v) ρ := by
  obtain ⟨h1, h2, h3, h4⟩ := h
  refine ⟨h1, h2, h3, ?_⟩
  rw [mI_ne hk]; exact h4
/-- a name was added -/
def NN (u w : CSt) (r : Nat) : Prop := r = 169 * cR u 2 + (pI u (cR u 2) 12).toInt.toNat ∧ r < 338 ∧ cR w = cR u ∧ (∀ p, pI w p 15 = pI u p 15) ∧ (pI w (cR u 2) 12).toInt = (pI u (cR u 2) 12).toInt + 1 ∧ (∀ p k, p ≠ r → mI w p k = mI u p k) ∧ mI w r 7 = 0 ∧ mI w r 3 = pI u (cR u 2) 12
theorem NN.ow {r ρ : Nat} (h : NN u w r) (ho : OW u ρ) : OW w ρ ∧ ρ ≠ r := by
  obtain ⟨h1, h2, h3, h4, h5, h6, h7, h8⟩ := h
  obtain ⟨o1, o2, o3, o4⟩ := ho
  have hne : ρ ≠ r := by omega
  have e3 : cR w 2 = cR u 2 := by rw [h3]
  refine ⟨⟨?_, ?_, ?_, ?_⟩, hne⟩
  · rw [e3, h4]; exact o1
  · rw [e3, h4]; exact o2
  · rw [e3, h4]; omega
  · rw [h6 ρ 7 hne]; exact o4
theorem p_room {q : Nat} {l1 : Int32} (hN : 5000000000 ≤ N) (hU : UC u) (hq : q < 2) (h0 : 0 ≤ l1.toInt) : wq (F_X6_hasRoomFor N q l1 u) (VR (fun (r : Int32) => r = 0 ∨ ((pI u q 12).toInt < 160 ∧ (l1.toInt ≤ 4 → (pA u q 9 l1.toNatClampNeg).toInt < (bt_1.getD l1.toNatClampNeg 0).toInt))) u) := by
  have e160 : (160 : Int32).toInt = 160 := by decide
  have e4 : (4 : Int32).toInt = 4 := by decide
  have e5 : (5 : Int32).toInt = 5 := by decide
  unfold F_X6_hasRoomFor B_X6_hasRoomFor_0
  refine wq_if.mpr ⟨fun c => ?_, fun _ => wq_some.mpr ⟨rfl, Or.inl rfl⟩⟩
  have c1 := Int32.lt_iff_toInt_lt.mp c
  refine wq_if.mpr ⟨fun c2 => ?_, fun c2 => ?_⟩
  · refine wq_bcR (v_X6_name hN hU hq) (fun r hr => pok hr ?_)
    refine wq_if.mpr ⟨fun _ => wq_some.mpr ⟨rfl, Or.inl rfl⟩, fun _ => wq_some.mpr ⟨rfl, Or.inr ⟨by omega, fun q => ?_⟩⟩⟩
    rw [c2] at q; omega
  · refine wq_if.mpr ⟨fun c3 => ?_, fun c3 => ?_⟩
    · unfold B_X6_hasRoomFor_58
      have c4 := Int32.lt_iff_toInt_lt.mp c3
      exact wq_some.mpr ⟨rfl, Or.inr ⟨by omega, fun q => by omega⟩⟩
    · have c4 := Int32.le_iff_toInt_le.mp (Int32.not_lt.mp c3)
      have hv : vp_in l1 5 := vin_iff.mpr ⟨h0, by omega⟩
      refine wq_rd.mpr ⟨hv, wq_rd.mpr ⟨hv, ?_⟩⟩
      refine wq_if.mpr ⟨fun _ => wq_some.mpr ⟨rfl, Or.inl rfl⟩, fun c5 => ?_⟩
      unfold B_X6_hasRoomFor_58
      exact wq_some.mpr ⟨rfl, Or.inr ⟨by omega, fun _ => Int32.lt_iff_toInt_lt.mp (Int32.not_le.mp c5)⟩⟩
/-- only the name q differs -/
def BCs (q : Nat) (u w : CSt) : Prop := w.1 = u.1 ∧ cA w = cA u ∧ pI w = pI u ∧ pA w = pA u ∧ cR w = cR u ∧ (∀ p k, p ≠ q → mI w p k = mI u p k)
theorem BCs.rf {q : Nat} : BCs q u u := ⟨rfl, rfl, rfl, rfl, rfl, fun _ _ _ => rfl⟩
theorem BCs.xmI {q k : Nat} {v : Int32} (h : BCs q u w) : BCs q u (xmI w q k v) := ⟨h.1, h.2.1, h.2.2.1, h.2.2.2.1, h.2.2.2.2.1, fun p m hp => (mI_ne (Or.inl hp)).trans (h.2.2.2.2.2 p m hp)⟩
theorem BCs.xmL {q k : Nat} {v : Int64} (h : BCs q u w) : BCs q u (xmL w q k v) := ⟨h.1, h.2.1, h.2.2.1, h.2.2.2.1, h.2.2.2.2.1, fun p m hp => h.2.2.2.2.2 p m hp⟩
theorem p_become {q : Nat} {l1 : Int32} {l2 : Int64} {l4 : Int32} (hN : 5000000000 ≤ N) (hU : UC u) : wq (F_X4_become N q l1 l2 l4 u) (fun _ w => UC w ∧ w.1 = u.1 ∧ cA w = cA u ∧ pI w = pI u ∧ pA w = pA u ∧ cR w = cR u ∧ (∀ p k, p ≠ q → mI w p k = mI u p k) ∧ mI w q 7 = 0) := by
  refine wq_mono (wq_and (v_X4_become (l0 := q) (l1 := l1) (l2 := l2) (l4 := l4) hN hU) (Q := fun _ w => BCs q u w ∧ mI w q 7 = 0) ?_) (fun r w h => ⟨h.1.1, h.2.1.1, h.2.1.2.1, h.2.1.2.2.1, h.2.1.2.2.2.1, h.2.1.2.2.2.2.1, h.2.1.2.2.2.2.2, h.2.2⟩)
  unfold F_X4_become B_X4_become_0
  refine wq_pc.mpr ?_
  have b1 : BCs q u (xmL u q 0 l2) := (BCs.rf).xmL
  generalize xmL u q 0 l2 = w1 at b1 ⊢
  refine wq_pc.mpr ?_
  have b2 : BCs q u (xmI w1 q 1 l4) := b1.xmI
  generalize xmI w1 q 1 l4 = w2 at b2 ⊢
  refine wq_pc.mpr ?_
  have b3 : BCs q u (xmI w2 q 2 l1) := b2.xmI
  generalize xmI w2 q 2 l1 = w3 at b3 ⊢
  refine wq_pc.mpr ?_
  have b4 : BCs q u (xmI w3 q 4 0) := b3.xmI
  generalize xmI w3 q 4 0 = w4 at b4 ⊢
  refine wq_pc.mpr ?_
  have b5 : BCs q u (xmI w4 q 5 3) := b4.xmI
  generalize xmI w4 q 5 3 = w5 at b5 ⊢
  refine wq_pc.mpr ?_
  have b6 : BCs q u (xmI w5 q 6 0) := b5.xmI
  generalize xmI w5 q 6 0 = w6 at b6 ⊢
  refine wq_pc.mpr ?_
  have b7 : BCs q u (xmI w6 q 7 0) := b6.xmI
  have s7 : mI (xmI w6 q 7 0) q 7 = 0 := mI_eq
  generalize xmI w6 q 7 0 = w7 at b7 s7 ⊢
  refine wq_pc.mpr ?_
  have b8 : BCs q u (xmI w7 q 8 0) := b7.xmI
  have s8 : mI (xmI w7 q 8 0) q 7 = 0 := (mI_ne (Or.inr (by decide))).trans s7
  generalize xmI w7 q 8 0 = w8 at b8 s8 ⊢
  refine wq_pc.mpr ?_
  have b9 : BCs q u (xmI w8 q 9 0) := b8.xmI
  have s9 : mI (xmI w8 q 9 0) q 7 = 0 := (mI_ne (Or.inr (by decide))).trans s8
  generalize xmI w8 q 9 0 = w9 at b9 s9 ⊢
  refine wq_pc.mpr ?_
  have b10 : BCs q u (xmL w9 q 10 0) := b9.xmL
  have s10 : mI (xmL w9 q 10 0) q 7 = 0 := s9
  generalize xmL w9 q 10 0 = w10 at b10 s10 ⊢
  refine wq_pc.mpr ?_
  have b11 : BCs q u (xmI w10 q 11 0) := b10.xmI
  have s11 : mI (xmI w10 q 11 0) q 7 = 0 := (mI_ne (Or.inr (by decide))).trans s10
  generalize xmI w10 q 11 0 = w11 at b11 s11 ⊢
  refine wq_pc.mpr ?_
  have b12 : BCs q u (xmI w11 q 12 0) := b11.xmI
  have s12 : mI (xmI w11 q 12 0) q 7 = 0 := (mI_ne (Or.inr (by decide))).trans s11
  generalize xmI w11 q 12 0 = w12 at b12 s12 ⊢
  refine wq_pc.mpr ?_
  have b13 : BCs q u (xmI w12 q 13 0) := b12.xmI
  have s13 : mI (xmI w12 q 13 0) q 7 = 0 := (mI_ne (Or.inr (by decide))).trans s12
  generalize xmI w12 q 13 0 = w13 at b13 s13 ⊢
  refine wq_pc.mpr ?_
  have b14 : BCs q u (xmI w13 q 14 (-1)) := b13.xmI
  have s14 : mI (xmI w13 q 14 (-1)) q 7 = 0 := (mI_ne (Or.inr (by decide))).trans s13
  generalize xmI w13 q 14 (-1) = w14 at b14 s14 ⊢
  exact wq_some.mpr ⟨b14, s14⟩
theorem p_add {l1 : Int32} {l2 : Int64} {l4 : Int32} (hN : 5000000000 ≤ N) (h : PR u0 n u i) (h0 : 0 ≤ l1.toInt) (ht : (pI u (cR u 2) 12).toInt < 160) (hm : l1.toInt ≤ 4 → (pA u (cR u 2) 9 l1.toNatClampNeg).toInt < (bt_1.getD l1.toNatClampNeg 0).toInt) : wq (F_X6_add N (cR u 2) l1 l2 l4 u) (fun r w => PR u0 n w i ∧ NN u w r) := by
  have hq : cR u 2 < 2 := h.uc.r 2
  generalize eq : cR u 2 = q at hq ht hm ⊢
  have e160 : (160 : Int32).toInt = 160 := by decide
  have e4 : (4 : Int32).toInt = 4 := by decide
  have rt : (0 : Int) ≤ (pI u q 12).toInt ∧ (pI u q 12).toInt ≤ 160 := h.uc.p q 12
  unfold F_X6_add B_X6_add_0
  refine wq_if.mpr ⟨fun _ => ?_, fun c => ?_⟩
  · refine wq_ix.mpr ⟨vin_iff.mpr ⟨rt.1, by omega⟩, ?_⟩
    generalize er : 169 * q + (pI u q 12).toNatClampNeg = r
    have er2 : (pI u q 12).toNatClampNeg = (pI u q 12).toInt.toNat := rfl
    refine wq_bc.mpr (wq_mono (p_become hN h.uc) (fun _ w1 hw => wq_pc.mpr ?_))
    obtain ⟨w1U, w1a, w1b, w1c, w1d, w1e, w1f, w1g⟩ := hw
    have g12 : pI w1 q 12 = pI u q 12 := by rw [w1c]
    have U2 : UC (xmI w1 r 3 (pI w1 q 12)) := UC.xmI (k := 3) w1U (show (-1 : Int) ≤ (pI w1 q 12).toInt by rw [g12]; omega) (show (pI w1 q 12).toInt ≤ (159 : Int) by rw [g12]; omega)
    -- the rest, from a state whose names but r are as before
    have fin : ∀ w : CSt, UC w → w.1 = u.1 → cA w = cA u → pI w = pI u → cR w = cR u → (∀ p k, p ≠ r → mI w p k = mI u p k) → mI w r 7 = 0 → mI w r 3 = pI u q 12 → wq (B_X6_add_86 N q r w) (fun r w => PR u0 n w i ∧ NN u w r) := by
      intro w hU a b c d e f g
      unfold B_X6_add_86
      refine wq_pc.mpr (wq_some.mpr ?_)
      have g12 : pI w q 12 = pI u q 12 := by rw [c]
      have el : (pI w q 12 + 1).toInt = (pI u q 12).toInt + 1 := by rw [g12, tI_add (by rw [one_toInt]; omega) (by rw [one_toInt]; omega), one_toInt]
      refine ⟨⟨UC.xpI (k := 12) hU (show (0 : Int) ≤ (pI w q 12 + 1).toInt by omega) (show (pI w q 12 + 1).toInt ≤ (160 : Int) by omega), ?_⟩, ?_, ?_, ?_, ?_, ?_, ?_, ?_, ?_⟩
      · obtain ⟨-, hA, h3, h4, h5, h6⟩ := h
        have e1 : ∀ k, cI (xpI w q 12 (pI w q 12 + 1)) k = cI u k := fun k => by show w.1 k = u.1 k; rw [a]
        have e2 : ∀ k, cA (xpI w q 12 (pI w q 12 + 1)) k = cA u k := fun k => by show cA w k = cA u k; rw [b]
        refine ⟨?_, ?_, ?_, ?_, h6⟩
        · unfold AD; rw [e1, e2]; exact hA
        · rw [e2]; exact h3
        · rw [e1]; exact h4
        · rw [e1]; exact h5
      · rw [eq]; omega
      · omega
      · exact d
      · intro p; rw [pI_ne (Or.inr (by decide)), c]
      · rw [eq, pI_eq]; exact el
      · intro p k hp; exact e p k hp
      · exact f
      · rw [eq]; exact g
    refine wq_if.mpr ⟨fun c => ?_, fun c => ?_⟩
    · exact fin _ U2 w1a w1b w1c w1e (fun p k hp => by rw [mI_ne (Or.inl hp)]; exact w1f p k (by omega)) (by rw [mI_ne (Or.inr (by decide))]; exact w1g) (by rw [mI_eq, g12])
    · have c1 := Int32.le_iff_toInt_le.mp (Int32.not_lt.mp c)
      have hv : vp_in l1 5 := vin_iff.mpr ⟨h0, by omega⟩
      have hm2 := hm (by omega)
      have el1 : l1.toNatClampNeg = l1.toInt.toNat := rfl
      have s0 := h.uc.s q l1
      have hbt : (bt_1.getD l1.toNatClampNeg 0).toInt ≤ 160 ∧ (l1.toNatClampNeg = 2 → (bt_1.getD l1.toNatClampNeg 0).toInt ≤ 8) := by
        have : l1.toNatClampNeg = 0 ∨ l1.toNatClampNeg = 1 ∨ l1.toNatClampNeg = 2 ∨ l1.toNatClampNeg = 3 ∨ l1.toNatClampNeg = 4 := by omega
        rcases this with e | e | e | e | e <;> rw [e] <;> decide
      have ed : pA (xmI w1 r 3 (pI w1 q 12)) q 9 = pA u q 9 := by show pA w1 q 9 = _; rw [w1d]
      refine wq_rd.mpr ⟨hv, ?_⟩
      rw [ed]
      have vb := i32_b (pA u q 9 l1.toNatClampNeg)
      have U3 := UC.xmI (q := r) (k := 4) (v := pA u q 9 l1.toNatClampNeg) U2 (show (0 : Int) ≤ (pA u q 9 l1.toNatClampNeg).toInt by omega) (show (pA u q 9 l1.toNatClampNeg).toInt ≤ (2147483647 : Int) by omega)
      refine wq_pc.mpr (wq_ix.mpr ⟨hv, ?_⟩)
      have e4 : mI (xmI (xmI w1 r 3 (pI w1 q 12)) r 4 (pA u q 9 l1.toNatClampNeg)) r 4 = pA u q 9 l1.toNatClampNeg := mI_eq
      rw [e4]
      refine wq_wc.mpr ⟨vin_iff.mpr ⟨by omega, by omega⟩, ?_⟩
      have e9 : ∀ a b, pA (xpA (xmI (xmI w1 r 3 (pI w1 q 12)) r 4 (pA u q 9 l1.toNatClampNeg)) q (4 + l1.toNatClampNeg) a b) q 9 = pA u q 9 := by
        intro a b
        rw [pA_ne (by omega)]
        exact ed
      refine wq_rd.mpr ⟨hv, ?_⟩
      rw [e9]
      refine wq_wc.mpr ⟨hv, ?_⟩
      have ev : (pA u q 9 l1.toNatClampNeg + 1).toInt = (pA u q 9 l1.toNatClampNeg).toInt + 1 := by rw [tI_add (by rw [one_toInt]; omega) (by rw [one_toInt]; omega), one_toInt]
      refine fin _ (uc_xpS (UC.xpA U3 (by omega)) (by omega) (by omega) (fun e2 => by have := hbt.2 e2; omega)) w1a w1b w1c w1e ?_ ?_ ?_
      · intro p k hp
        show mI (xmI (xmI w1 r 3 (pI w1 q 12)) r 4 (pA u q 9 l1.toNatClampNeg)) p k = _
        rw [mI_ne (Or.inl hp), mI_ne (Or.inl hp)]; exact w1f p k (by omega)
      · show mI (xmI (xmI w1 r 3 (pI w1 q 12)) r 4 (pA u q 9 l1.toNatClampNeg)) r 7 = _
        rw [mI_ne (Or.inr (by decide)), mI_ne (Or.inr (by decide))]; exact w1g
      · show mI (xmI (xmI w1 r 3 (pI w1 q 12)) r 4 (pA u q 9 l1.toNatClampNeg)) r 3 = _
        rw [mI_ne (Or.inr (by decide)), mI_eq, g12]
  · have c1 := Int32.le_iff_toInt_le.mp (Int32.not_lt.mp c)
    omega
theorem p_newName {l1 : Int32} (hb : TB u0 n) (hN : 5000000000 ≤ N) (h : PR u0 n u i) (ht : ¬ isEnd (tyF u0 i)) (h0 : 0 ≤ l1.toInt) : wq (F_X3_newName N l1 u) (PS (fun r w => PR u0 n w (i + 1) ∧ NN u w r)) := by
  unfold F_X3_newName B_X3_newName_0
  refine wq_bcR (v_X9_here hN h.uc) (fun r _ => ?_)
  refine wq_bcR (v_X9_head hN h.uc) (fun r2 _ => ?_)
  refine wq_bcR (v_X9_tail hN h.uc) (fun r3 _ => ?_)
  have e67 : ∀ s0 : Nat, wq (B_X3_newName_67 N l1 r r2 r3 s0 u) (PS (fun r w => PR u0 n w (i + 1) ∧ NN u w r)) := by
    intro s0
    unfold B_X3_newName_67
    refine wq_if.mpr ⟨fun _ => ?_, fun _ => prf (α := Unit) hN h.uc⟩
    unfold B_X3_newName_88
    refine pok (h.uc.r 2) ?_
    refine wq_bcR (p_room hN h.uc (h.uc.r 2) h0) (fun r4 hr4 => ?_)
    refine wq_if.mpr ⟨fun _ => prf (α := Unit) hN h.uc, fun c => ?_⟩
    rcases hr4 with q | ⟨q1, q2⟩
    · exact absurd q c
    unfold B_X3_newName_108
    refine pnx hb h ht (fun _ w e1 h1 => pok (h1.uc.r 2) ?_)
    have a1 : cR w = cR u := by show w.2.2.2.2.2.2.2.2.2.2 = u.2.2.2.2.2.2.2.2.2.2; rw [e1]
    have a2 : pI w = pI u := by show w.2.2.2.2.1 = u.2.2.2.2.1; rw [e1]
    have a3 : mI w = mI u := by show w.2.2.2.2.2.2.2.2.1 = u.2.2.2.2.2.2.2.2.1; rw [e1]
    have a4 : pA w = pA u := by show w.2.2.2.2.2.1 = u.2.2.2.2.2.1; rw [e1]
    refine wq_bc.mpr (wq_mono (p_add hN h1 h0 (by rw [a1, a2]; exact q1) (by rw [a1, a4]; exact q2)) (fun r5 w2 hw => ?_))
    obtain ⟨h2, hn⟩ := hw
    have hn2 : NN u w2 r5 := by
      unfold NN at hn ⊢
      rw [a1, a2, a3] at hn
      exact hn
    exact pok hn2.2.1 (pen ⟨h2, hn2⟩)
  refine wq_if.mpr ⟨fun _ => pok (h.uc.r 2) ?_, fun _ => pok (h.uc.r 2) ?_⟩
  · refine wq_bcR (v_X6_name hN h.uc (h.uc.r 2)) (fun r4 hr4 => pok hr4 ?_)
    refine wq_bcR (v_X6_localCalled hN h.uc (h.uc.r 2)) (fun r5 hr5 => pok hr5 ?_)
    exact e67 _
  · refine wq_bcR (v_X6_ofText hN h.uc (h.uc.r 2)) (fun r5 hr5 => pok hr5 ?_)
    exact e67 _
end PItem
