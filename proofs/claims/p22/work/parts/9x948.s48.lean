/-! The second pass: Items. A name is added. -/
theorem mI_at {u : CSt} {q k j : Nat} {a : Int32} : mI (xmI u q k a) q j = if j = k then a else mI u q j := by
  show (if q = q then (if j = k then a else mI u q j) else mI u q j) = _
  rw [if_pos rfl]
theorem mI_L {u : CSt} {q k p j : Nat} {a : Int64} : mI (xmL u q k a) p j = mI u p j := rfl
theorem mL_at {u : CSt} {q k j : Nat} {a : Int64} : mL (xmL u q k a) q j = if j = k then a else mL u q j := by
  show (if q = q then (if j = k then a else mL u q j) else mL u q j) = _
  rw [if_pos rfl]
theorem mL_I {u : CSt} {q k p j : Nat} {a : Int32} : mL (xmI u q k a) p j = mL u p j := rfl
/-- nothing but the name m changes -/
def BC0 (m : Nat) (v w : CSt) : Prop := w.1 = v.1 ∧ w.2.1 = v.2.1 ∧ w.2.2.1 = v.2.2.1 ∧ w.2.2.2.1 = v.2.2.2.1 ∧ w.2.2.2.2.1 = v.2.2.2.2.1 ∧ w.2.2.2.2.2.1 = v.2.2.2.2.2.1 ∧ w.2.2.2.2.2.2.1 = v.2.2.2.2.2.2.1 ∧ w.2.2.2.2.2.2.2.1 = v.2.2.2.2.2.2.2.1 ∧ w.2.2.2.2.2.2.2.2.2.2 = v.2.2.2.2.2.2.2.2.2.2 ∧ (∀ p k, p ≠ m → mI w p k = mI v p k) ∧ (∀ p k, p ≠ m → mL w p k = mL v p k)
/-- the fields of a new name -/
def NWf (w : CSt) (m : Nat) (so : Int32) (H : Int64) (t : Int32) : Prop := mL w m 0 = H ∧ mL w m 10 = 0 ∧ mI w m 1 = t ∧ mI w m 2 = so ∧ mI w m 5 = 3 ∧ mI w m 6 = 0 ∧ mI w m 7 = 0 ∧ mI w m 8 = 0 ∧ mI w m 9 = 0 ∧ mI w m 11 = 0 ∧ mI w m 12 = 0 ∧ mI w m 14 = -1
def PAx (v w : CSt) (q so k0 T : Nat) : Prop := (pA v q 9 so).toInt = k0 ∧ (pA w q 9 so).toInt = (k0 + 1 : Nat) ∧ (∀ p, p ≤ 4 → ¬ p = so → pA w q 9 p = pA v q 9 p) ∧ (pA w q (4 + so) k0).toInt = T ∧ (∀ p k, p ≤ 4 → ¬ (p = so ∧ k = k0) → pA w q (4 + p) k = pA v q (4 + p) k)
/-- a global name was added -/
def NWc (v w : CSt) (q T : Nat) (so : Int32) (sn k0 : Nat) (H : Int64) (t : Int32) : Prop := w.1 = v.1 ∧ w.2.1 = v.2.1 ∧ w.2.2.1 = v.2.2.1 ∧ w.2.2.2.1 = v.2.2.2.1 ∧ (∀ p k, ¬ (p = q ∧ k = 12) → pI w p k = pI v p k) ∧ (pI w q 12).toInt = (T + 1 : Nat) ∧ pI w q 12 = pI v q 12 + 1 ∧ (∀ p k, ¬ p = q → pA w p k = pA v p k) ∧ (∀ k, k ∉ [4, 5, 6, 7, 8, 9] → pA w q k = pA v q k) ∧ PAx v w q sn k0 T ∧ w.2.2.2.2.2.2.2.1 = v.2.2.2.2.2.2.2.1 ∧ w.2.2.2.2.2.2.2.2.2.2 = v.2.2.2.2.2.2.2.2.2.2 ∧ (∀ p k, p ≠ 169 * q + T → mI w p k = mI v p k) ∧ (∀ p k, p ≠ 169 * q + T → mL w p k = mL v p k) ∧ NWf w (169 * q + T) so H t ∧ mI w (169 * q + T) 3 = pI v q 12 ∧ mI w (169 * q + T) 4 = pA v q 9 sn
/-- a parameter or local was added -/
def NWl (v w : CSt) (q T : Nat) (so : Int32) (H : Int64) (t : Int32) : Prop := w.1 = v.1 ∧ w.2.1 = v.2.1 ∧ w.2.2.1 = v.2.2.1 ∧ w.2.2.2.1 = v.2.2.2.1 ∧ (∀ p k, ¬ (p = q ∧ k = 12) → pI w p k = pI v p k) ∧ (pI w q 12).toInt = (T + 1 : Nat) ∧ pI w q 12 = pI v q 12 + 1 ∧ w.2.2.2.2.2.1 = v.2.2.2.2.2.1 ∧ w.2.2.2.2.2.2.2.1 = v.2.2.2.2.2.2.2.1 ∧ w.2.2.2.2.2.2.2.2.2.2 = v.2.2.2.2.2.2.2.2.2.2 ∧ (∀ p k, p ≠ 169 * q + T → mI w p k = mI v p k) ∧ (∀ p k, p ≠ 169 * q + T → mL w p k = mL v p k) ∧ NWf w (169 * q + T) so H t ∧ mI w (169 * q + T) 3 = pI v q 12
section Add
variable {v w z : CSt} {u x : RSt} {q s T G N m sn k0 : Nat} {so t : Int32} {H : Int64}
theorem BC0.rf : BC0 m v v := ⟨rfl, rfl, rfl, rfl, rfl, rfl, rfl, rfl, rfl, fun _ _ _ => rfl, fun _ _ _ => rfl⟩
theorem BC0.fI {k : Nat} {a : Int32} (h : BC0 m v w) : BC0 m v (xmI w m k a) := by
  obtain ⟨a1, a2, a3, a4, a5, a6, a7, a8, a9, a10, a11⟩ := h
  exact ⟨a1, a2, a3, a4, a5, a6, a7, a8, a9, fun p j hp => (mI_ne (Or.inl hp)).trans (a10 p j hp), fun p j hp => a11 p j hp⟩
theorem BC0.fL {k : Nat} {a : Int64} (h : BC0 m v w) : BC0 m v (xmL w m k a) := by
  obtain ⟨a1, a2, a3, a4, a5, a6, a7, a8, a9, a10, a11⟩ := h
  exact ⟨a1, a2, a3, a4, a5, a6, a7, a8, a9, fun p j hp => a10 p j hp, fun p j hp => (mL_ne (Or.inl hp)).trans (a11 p j hp)⟩
theorem k2_become : pq (F_X4_become N m so H t v) (fun _ w => BC0 m v w ∧ NWf w m so H t) := by
  unfold F_X4_become B_X4_become_0
  refine pq_pc (pq_pc (pq_pc (pq_pc (pq_pc (pq_pc (pq_pc (pq_pc (pq_pc (pq_pc (pq_pc (pq_pc (pq_pc (pq_pc (pq_some ⟨?_, ?_, ?_, ?_, ?_, ?_, ?_, ?_, ?_, ?_, ?_, ?_, ?_⟩))))))))))))))
  · exact BC0.fI (BC0.fI (BC0.fI (BC0.fI (BC0.fL (BC0.fI (BC0.fI (BC0.fI (BC0.fI (BC0.fI (BC0.fI (BC0.fI (BC0.fI (BC0.fL BC0.rf)))))))))))))
  · ((repeat (first | (rw [mL_at, if_neg (by decide)]) | (rw [mL_I]))); rw [mL_at, if_pos rfl])
  · ((repeat (first | (rw [mL_at, if_neg (by decide)]) | (rw [mL_I]))); rw [mL_at, if_pos rfl])
  · ((repeat (first | (rw [mI_at, if_neg (by decide)]) | (rw [mI_L]))); rw [mI_at, if_pos rfl])
  · ((repeat (first | (rw [mI_at, if_neg (by decide)]) | (rw [mI_L]))); rw [mI_at, if_pos rfl])
  · ((repeat (first | (rw [mI_at, if_neg (by decide)]) | (rw [mI_L]))); rw [mI_at, if_pos rfl])
  · ((repeat (first | (rw [mI_at, if_neg (by decide)]) | (rw [mI_L]))); rw [mI_at, if_pos rfl])
  · ((repeat (first | (rw [mI_at, if_neg (by decide)]) | (rw [mI_L]))); rw [mI_at, if_pos rfl])
  · ((repeat (first | (rw [mI_at, if_neg (by decide)]) | (rw [mI_L]))); rw [mI_at, if_pos rfl])
  · ((repeat (first | (rw [mI_at, if_neg (by decide)]) | (rw [mI_L]))); rw [mI_at, if_pos rfl])
  · ((repeat (first | (rw [mI_at, if_neg (by decide)]) | (rw [mI_L]))); rw [mI_at, if_pos rfl])
  · ((repeat (first | (rw [mI_at, if_neg (by decide)]) | (rw [mI_L]))); rw [mI_at, if_pos rfl])
  · ((repeat (first | (rw [mI_at, if_neg (by decide)]) | (rw [mI_L]))); rw [mI_at, if_pos rfl])
theorem pI_at {k j : Nat} {a : Int32} : pI (xpI v q k a) q j = if j = k then a else pI v q j := by
  show (if q = q then (if j = k then a else pI v q j) else pI v q j) = _
  rw [if_pos rfl]
theorem k2_add (hT : (pI v q 12).toInt = (T : Int)) (hT2 : T < 160) (hso : so.toInt = (sn : Int)) (hs4 : sn ≤ 4) (hk : (pA v q 9 sn).toInt = (k0 : Int)) (hk2 : k0 ≤ 160) : pq (F_X6_add N q so H t v) (fun r w => r = 169 * q + T ∧ NWc v w q T so sn k0 H t) := by
  have e1 : (1 : Int32).toInt = 1 := by decide
  have e4 : (4 : Int32).toInt = 4 := by decide
  have e160 : (160 : Int32).toInt = 160 := by decide
  have nT := n_of hT
  have nso := n_of hso
  unfold F_X6_add B_X6_add_0
  refine pq_if (fun _ => pq_ix (fun _ => ?_)) (fun c => absurd (Int32.lt_iff_toInt_lt.mpr (by omega)) c)
  rw [nT]
  refine pq_bc (pq_m k2_become (fun _ w1 h1 => ?_))
  obtain ⟨hb, hw⟩ := h1
  refine pq_pc ?_
  rw [if_neg (fun c => by have := Int32.lt_iff_toInt_lt.mp c; omega)]
  obtain ⟨b1, b2, b3, b4, b5, b6, b7, b8, b9, b10, b11⟩ := hb
  have p12 : pI w1 q 12 = pI v q 12 := by
    show w1.2.2.2.2.1 q 12 = v.2.2.2.2.1 q 12
    rw [b5]
  have p9 : pA w1 q 9 = pA v q 9 := by
    show w1.2.2.2.2.2.1 q 9 = v.2.2.2.2.2.1 q 9
    rw [b6]
  have hw2 : NWf (xmI w1 (169 * q + T) 3 (pI w1 q 12)) (169 * q + T) so H t := by
    obtain ⟨f1, f2, f3, f4, f5, f6, f7, f8, f9, f10, f11, f12⟩ := hw
    exact ⟨f1, f2, (mI_ne (Or.inr (by decide))).trans f3, (mI_ne (Or.inr (by decide))).trans f4, (mI_ne (Or.inr (by decide))).trans f5, (mI_ne (Or.inr (by decide))).trans f6, (mI_ne (Or.inr (by decide))).trans f7, (mI_ne (Or.inr (by decide))).trans f8, (mI_ne (Or.inr (by decide))).trans f9, (mI_ne (Or.inr (by decide))).trans f10, (mI_ne (Or.inr (by decide))).trans f11, (mI_ne (Or.inr (by decide))).trans f12⟩
  have m3 : mI (xmI w1 (169 * q + T) 3 (pI w1 q 12)) (169 * q + T) 3 = pI v q 12 := by rw [mI_eq, p12]
  have n10 : ∀ p k, p ≠ 169 * q + T → mI (xmI w1 (169 * q + T) 3 (pI w1 q 12)) p k = mI v p k := fun p k hp => (mI_ne (Or.inl hp)).trans (b10 p k hp)
  have c1 : (xmI w1 (169 * q + T) 3 (pI w1 q 12)).1 = v.1 := b1
  have c2 : (xmI w1 (169 * q + T) 3 (pI w1 q 12)).2.1 = v.2.1 := b2
  have c3 : (xmI w1 (169 * q + T) 3 (pI w1 q 12)).2.2.1 = v.2.2.1 := b3
  have c4 : (xmI w1 (169 * q + T) 3 (pI w1 q 12)).2.2.2.1 = v.2.2.2.1 := b4
  have c5 : (xmI w1 (169 * q + T) 3 (pI w1 q 12)).2.2.2.2.1 = v.2.2.2.2.1 := b5
  have c6 : (xmI w1 (169 * q + T) 3 (pI w1 q 12)).2.2.2.2.2.1 = v.2.2.2.2.2.1 := b6
  have c8 : (xmI w1 (169 * q + T) 3 (pI w1 q 12)).2.2.2.2.2.2.2.1 = v.2.2.2.2.2.2.2.1 := b8
  have c9 : (xmI w1 (169 * q + T) 3 (pI w1 q 12)).2.2.2.2.2.2.2.2.2.2 = v.2.2.2.2.2.2.2.2.2.2 := b9
  have n11 : ∀ p k, p ≠ 169 * q + T → mL (xmI w1 (169 * q + T) 3 (pI w1 q 12)) p k = mL v p k := b11
  generalize xmI w1 (169 * q + T) 3 (pI w1 q 12) = w2 at hw2 m3 n10 n11 c1 c2 c3 c4 c5 c6 c8 c9 ⊢
  refine pq_rd ?_
  rw [nso]
  have a9 : pA w2 q 9 = pA v q 9 := by
    show w2.2.2.2.2.2.1 q 9 = v.2.2.2.2.2.1 q 9
    rw [c6]
  rw [a9]
  refine pq_pc ?_
  have hw3 : NWf (xmI w2 (169 * q + T) 4 (pA v q 9 sn)) (169 * q + T) so H t := by
    obtain ⟨f1, f2, f3, f4, f5, f6, f7, f8, f9, f10, f11, f12⟩ := hw2
    exact ⟨f1, f2, (mI_ne (Or.inr (by decide))).trans f3, (mI_ne (Or.inr (by decide))).trans f4, (mI_ne (Or.inr (by decide))).trans f5, (mI_ne (Or.inr (by decide))).trans f6, (mI_ne (Or.inr (by decide))).trans f7, (mI_ne (Or.inr (by decide))).trans f8, (mI_ne (Or.inr (by decide))).trans f9, (mI_ne (Or.inr (by decide))).trans f10, (mI_ne (Or.inr (by decide))).trans f11, (mI_ne (Or.inr (by decide))).trans f12⟩
  have d3 : mI (xmI w2 (169 * q + T) 4 (pA v q 9 sn)) (169 * q + T) 3 = pI v q 12 := (mI_ne (Or.inr (by decide))).trans m3
  have d4 : mI (xmI w2 (169 * q + T) 4 (pA v q 9 sn)) (169 * q + T) 4 = pA v q 9 sn := mI_eq
  have d10 : ∀ p k, p ≠ 169 * q + T → mI (xmI w2 (169 * q + T) 4 (pA v q 9 sn)) p k = mI v p k := fun p k hp => (mI_ne (Or.inl hp)).trans (n10 p k hp)
  have g1 : (xmI w2 (169 * q + T) 4 (pA v q 9 sn)).1 = v.1 := c1
  have g2 : (xmI w2 (169 * q + T) 4 (pA v q 9 sn)).2.1 = v.2.1 := c2
  have g3 : (xmI w2 (169 * q + T) 4 (pA v q 9 sn)).2.2.1 = v.2.2.1 := c3
  have g4 : (xmI w2 (169 * q + T) 4 (pA v q 9 sn)).2.2.2.1 = v.2.2.2.1 := c4
  have g5 : (xmI w2 (169 * q + T) 4 (pA v q 9 sn)).2.2.2.2.1 = v.2.2.2.2.1 := c5
  have g6 : (xmI w2 (169 * q + T) 4 (pA v q 9 sn)).2.2.2.2.2.1 = v.2.2.2.2.2.1 := c6
  have g8 : (xmI w2 (169 * q + T) 4 (pA v q 9 sn)).2.2.2.2.2.2.2.1 = v.2.2.2.2.2.2.2.1 := c8
  have g9 : (xmI w2 (169 * q + T) 4 (pA v q 9 sn)).2.2.2.2.2.2.2.2.2.2 = v.2.2.2.2.2.2.2.2.2.2 := c9
  have d11 : ∀ p k, p ≠ 169 * q + T → mL (xmI w2 (169 * q + T) 4 (pA v q 9 sn)) p k = mL v p k := n11
  generalize xmI w2 (169 * q + T) 4 (pA v q 9 sn) = w3 at hw3 d3 d4 d10 d11 g1 g2 g3 g4 g5 g6 g8 g9 ⊢
  refine pq_ix (fun _ => pq_wc ?_)
  rw [d4, n_of hk]
  have q12 : pI w3 q 12 = pI v q 12 := by
    show w3.2.2.2.2.1 q 12 = v.2.2.2.2.1 q 12
    rw [g5]
  have r6 : ∀ p k, pA w3 p k = pA v p k := fun p k => by
    show w3.2.2.2.2.2.1 p k = v.2.2.2.2.2.1 p k
    rw [g6]
  rw [q12]
  have sn9 : ¬ 9 = 4 + sn := by omega
  refine pq_rd (pq_wc (pq_pc (pq_some ⟨rfl, ?_⟩)))
  rw [pA_ne sn9, r6, nso]
  have k1 : (pA v q 9 sn + 1).toInt = (k0 + 1 : Nat) := by
    rw [tI_add (by omega) (by omega), e1, hk]
    omega
  have T1 : (pI v q 12 + 1).toInt = (T + 1 : Nat) := by
    rw [tI_add (by omega) (by omega), e1, hT]
    omega
  have pr : ∀ p k, pA (xpI (xpA (xpA w3 q (4 + sn) k0 (pI v q 12)) q 9 sn (pA v q 9 sn + 1)) q 12 (pI (xpA (xpA w3 q (4 + sn) k0 (pI v q 12)) q 9 sn (pA v q 9 sn + 1)) q 12 + 1)) p k = pA (xpA (xpA w3 q (4 + sn) k0 (pI v q 12)) q 9 sn (pA v q 9 sn + 1)) p k := fun _ _ => rfl
  have i12 : pI (xpA (xpA w3 q (4 + sn) k0 (pI v q 12)) q 9 sn (pA v q 9 sn + 1)) q 12 = pI v q 12 := q12
  rw [i12]
  rw [i12] at pr
  refine ⟨g1, g2, g3, g4, fun p k hp => ?_, ?_, pI_eq, fun p k hp => ?_, fun k hk => ?_, ⟨hk, ?_, fun p hp hn => ?_, ?_, fun p k hp hn => ?_⟩, g8, g9, d10, d11, hw3, d3, d4⟩
  · have : pI (xpA (xpA w3 q (4 + sn) k0 (pI v q 12)) q 9 sn (pA v q 9 sn + 1)) p k = pI v p k := by
      show w3.2.2.2.2.1 p k = v.2.2.2.2.1 p k
      rw [g5]
    rw [pI_ne (by omega)]
    exact this
  · rw [pI_eq]
    exact T1
  · have f1 : pA (xpA (xpA w3 q (4 + sn) k0 (pI v q 12)) q 9 sn (pA v q 9 sn + 1)) p k = pA v p k := by
      show (if p = q then _ else (if p = q then _ else pA w3 p k)) = _
      rw [if_neg hp, if_neg hp, r6]
    rw [pr]
    exact f1
  · rw [pr, pA_ne (fun e => hk (by rw [e]; decide)), pA_ne (fun e => hk (by rw [e]; rcases (show sn = 0 ∨ sn = 1 ∨ sn = 2 ∨ sn = 3 ∨ sn = 4 by omega) with h | h | h | h | h <;> (rw [h]; decide))), r6]
  · rw [pr, pA_eq]
    exact k1
  · rw [pr, pA_ne2 (Or.inr (Or.inr hn)), pA_ne sn9, r6]
  · rw [pr, pA_ne (by omega), pA_eq]
    exact hT
  · rw [pr, pA_ne (by omega), pA_ne2 (by omega), r6]
theorem k2_addL (hT : (pI v q 12).toInt = (T : Int)) (hT2 : T < 160) (hso : (4 : Int32) < so) : pq (F_X6_add N q so H t v) (fun r w => r = 169 * q + T ∧ NWl v w q T so H t) := by
  have e1 : (1 : Int32).toInt = 1 := by decide
  have e160 : (160 : Int32).toInt = 160 := by decide
  have nT := n_of hT
  unfold F_X6_add B_X6_add_0
  refine pq_if (fun _ => pq_ix (fun _ => ?_)) (fun c => absurd (Int32.lt_iff_toInt_lt.mpr (by omega)) c)
  rw [nT]
  refine pq_bc (pq_m k2_become (fun _ w1 h1 => ?_))
  obtain ⟨hb, hw⟩ := h1
  refine pq_pc ?_
  rw [if_pos hso]
  obtain ⟨b1, b2, b3, b4, b5, b6, b7, b8, b9, b10, b11⟩ := hb
  have p12 : pI w1 q 12 = pI v q 12 := by
    show w1.2.2.2.2.1 q 12 = v.2.2.2.2.1 q 12
    rw [b5]
  unfold B_X6_add_86
  refine pq_pc (pq_some ⟨rfl, ?_⟩)
  have i12 : pI (xmI w1 (169 * q + T) 3 (pI w1 q 12)) q 12 = pI v q 12 := p12
  rw [i12, p12]
  have T1 : (pI v q 12 + 1).toInt = (T + 1 : Nat) := by
    rw [tI_add (by omega) (by omega), e1, hT]
    omega
  refine ⟨b1, b2, b3, b4, fun p k hp => ?_, ?_, pI_eq, b6, b8, b9, fun p k hp => ?_, fun p k hp => b11 p k hp, ?_, ?_⟩
  · rw [pI_ne (by omega)]
    show w1.2.2.2.2.1 p k = v.2.2.2.2.1 p k
    rw [b5]
  · rw [pI_eq]
    exact T1
  · show mI (xmI w1 (169 * q + T) 3 (pI v q 12)) p k = _
    rw [mI_ne (Or.inl hp)]
    exact b10 p k hp
  · obtain ⟨f1, f2, f3, f4, f5, f6, f7, f8, f9, f10, f11, f12⟩ := hw
    exact ⟨f1, f2, (mI_ne (Or.inr (by decide))).trans f3, (mI_ne (Or.inr (by decide))).trans f4, (mI_ne (Or.inr (by decide))).trans f5, (mI_ne (Or.inr (by decide))).trans f6, (mI_ne (Or.inr (by decide))).trans f7, (mI_ne (Or.inr (by decide))).trans f8, (mI_ne (Or.inr (by decide))).trans f9, (mI_ne (Or.inr (by decide))).trans f10, (mI_ne (Or.inr (by decide))).trans f11, (mI_ne (Or.inr (by decide))).trans f12⟩
  · show mI (xmI w1 (169 * q + T) 3 (pI v q 12)) (169 * q + T) 3 = _
    exact mI_eq
end Add
