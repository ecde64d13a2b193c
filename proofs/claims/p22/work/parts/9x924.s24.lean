/-! The second pass: what a state of the class, and of the reference, is at a token; small programs of the class. -/
abbrev E5 := Int32 × Int32 × Int64 × (Nat → Int32) × (Nat → Int32)
abbrev R5 := Int32 × Int64 × Int32 × Int32 × Int64
def eC (v : CSt) : E5 := (cI v 16, cI v 17, cL v 0, cA v 230, cA v 232)
def eR (u : RSt) : R5 := (u.1 78, u.2.1 79, u.1 80, u.1 81, u.2.1 77)
/-- nothing but code, the place among the tokens and what E's need changes -/
def cfr (v w : CSt) : Prop := (∀ k, k ∉ [5, 13, 14, 15, 16, 17] → cI w k = cI v k) ∧ (∀ k, k ∉ [230, 231, 232, 233] → cA w k = cA v k) ∧ w.2.2.2.1 = v.2.2.2.1 ∧ (∀ q k, k ∉ [13, 14] → pI w q k = pI v q k) ∧ (∀ q k, k ∉ [11, 12, 13, 14] → pA w q k = pA v q k) ∧ w.2.2.2.2.2.2.2 = v.2.2.2.2.2.2.2
def rfr (u w : RSt) : Prop := (∀ k, k ∉ [65, 66, 67, 68, 74, 78, 80, 81] → w.1 k = u.1 k) ∧ (∀ k, k ∉ [49, 50, 51, 54, 75, 76] → w.2.2.1 k = u.2.2.1 k) ∧ (∀ k, k ∉ [52, 53] → w.2.2.2 k = u.2.2.2 k)
def CE (v0 v : CSt) (i l : Nat) (e : E5) : Prop := cfr v0 v ∧ (cI v 5).toInt = i ∧ (cI v 13).toInt = l ∧ eC v = e
def RE (u0 u : RSt) (i o l : Nat) (c : R5) : Prop := rfr u0 u ∧ u.1 67 = 0 ∧ (u.1 65).toInt = i ∧ (u.1 66).toInt = o ∧ (u.1 74).toInt = l ∧ eR u = c
section CEs
variable {v0 v w : CSt} {i l n N : Nat} {e : E5} {β : Type} {Q : β → CSt → Prop}
theorem cfr_rf : cfr v v := ⟨fun _ _ => rfl, fun _ _ => rfl, rfl, fun _ _ _ => rfl, fun _ _ _ => rfl, rfl⟩
theorem cfr_tr {z : CSt} (h : cfr v w) (h2 : cfr w z) : cfr v z := by
  obtain ⟨a1, a2, a3, a4, a5, a6⟩ := h
  obtain ⟨b1, b2, b3, b4, b5, b6⟩ := h2
  exact ⟨fun k hk => (b1 k hk).trans (a1 k hk), fun k hk => (b2 k hk).trans (a2 k hk), b3.trans a3, fun q k hk => (b4 q k hk).trans (a4 q k hk), fun q k hk => (b5 q k hk).trans (a5 q k hk), b6.trans a6⟩
theorem cfr_I {c : Nat} {a : Int32} (hc : c ∈ [5, 13, 14, 15, 16, 17]) : cfr v (xI v c a) := by
  refine ⟨fun k hk => ?_, fun _ _ => rfl, rfl, fun _ _ _ => rfl, fun _ _ _ => rfl, rfl⟩
  show (xI v c a).1 k = v.1 k
  rw [xI_1, if_neg (fun q => hk (by rw [q]; exact hc))]
theorem cfr_A {c k : Nat} {a : Int32} (hc : c ∈ [230, 231, 232, 233]) : cfr v (xA v c k a) := by
  refine ⟨fun _ _ => rfl, fun d hd => ?_, rfl, fun _ _ _ => rfl, fun _ _ _ => rfl, rfl⟩
  show (if d = c then upd (cA v c) k a else cA v d) = _
  rw [if_neg (fun q => hd (by rw [q]; exact hc))]
theorem cfr_L {c : Nat} {a : Int64} : cfr v (xL v c a) := ⟨fun _ _ => rfl, fun _ _ => rfl, rfl, fun _ _ _ => rfl, fun _ _ _ => rfl, rfl⟩
theorem cfr_pI {q c : Nat} {a : Int32} (hc : c ∈ [13, 14]) : cfr v (xpI v q c a) := by
  refine ⟨fun _ _ => rfl, fun _ _ => rfl, rfl, fun q' k hk => ?_, fun _ _ _ => rfl, rfl⟩
  show (if q' = q then (if k = c then a else pI v q' k) else pI v q' k) = _
  by_cases z : q' = q
  · rw [if_pos z, if_neg (fun x => hk (by rw [x]; exact hc))]
  · rw [if_neg z]
theorem cfr_pA {q c k : Nat} {a : Int32} (hc : c ∈ [11, 12, 13, 14]) : cfr v (xpA v q c k a) := by
  refine ⟨fun _ _ => rfl, fun _ _ => rfl, rfl, fun _ _ _ => rfl, fun q' d hd => ?_, rfl⟩
  show (if q' = q then (if d = c then upd (pA v q' d) k a else pA v q' d) else pA v q' d) = _
  by_cases z : q' = q
  · rw [if_pos z, if_neg (fun x => hd (by rw [x]; exact hc))]
  · rw [if_neg z]
theorem cfr_pB {q c k : Nat} {a : Int64} : cfr v (xpB v q c k a) := ⟨fun _ _ => rfl, fun _ _ => rfl, rfl, fun _ _ _ => rfl, fun _ _ _ => rfl, rfl⟩
theorem CE.nat (h : CE v0 v i l e) : (cI v 5).toNatClampNeg = i := by
  have := h.2.1
  show (cI v 5).toInt.toNat = i
  omega
theorem CE.row (h : CE v0 v i l e) {k : Nat} (hk : k ∉ [230, 231, 232, 233]) : cA v k = cA v0 k := h.1.2.1 k hk
theorem CE.val (h : CE v0 v i l e) : cB v 205 = cB v0 205 := by show v.2.2.2.1 205 = v0.2.2.2.1 205; rw [h.1.2.2.1]
theorem CE.nm (h : CE v0 v i l e) (m k : Nat) : mI v m k = mI v0 m k := by show v.2.2.2.2.2.2.2.2.1 m k = v0.2.2.2.2.2.2.2.2.1 m k; rw [h.1.2.2.2.2.2]
theorem CE.nl (h : CE v0 v i l e) (m k : Nat) : mL v m k = mL v0 m k := by show v.2.2.2.2.2.2.2.2.2.1 m k = v0.2.2.2.2.2.2.2.2.2.1 m k; rw [h.1.2.2.2.2.2]
theorem CE.rf (h : CE v0 v i l e) (k : Nat) : cR v k = cR v0 k := by show v.2.2.2.2.2.2.2.2.2.2 k = v0.2.2.2.2.2.2.2.2.2.2 k; rw [h.1.2.2.2.2.2]
theorem CE.pi (h : CE v0 v i l e) (q : Nat) {k : Nat} (hk : k ∉ [13, 14]) : pI v q k = pI v0 q k := h.1.2.2.2.1 q k hk
theorem CE.pa (h : CE v0 v i l e) (q : Nat) {k : Nat} (hk : k ∉ [11, 12, 13, 14]) : pA v q k = pA v0 q k := h.1.2.2.2.2.1 q k hk
theorem CE.x5 {a : Int32} {j : Nat} (h : CE v0 v i l e) (ha : a.toInt = j) : CE v0 (xI v 5 a) j l e := ⟨cfr_tr h.1 (cfr_I (by decide)), ha, h.2.2.1, h.2.2.2⟩
theorem CE.x6 {c : Nat} {a : Int32} (h : CE v0 v i l e) (hc : c = 14 ∨ c = 15) : CE v0 (xI v c a) i l e := by
  rcases hc with rfl | rfl <;> exact ⟨cfr_tr h.1 (cfr_I (by decide)), h.2.1, h.2.2.1, h.2.2.2⟩
theorem CE.x17 {a : Int32} (h : CE v0 v i l e) : CE v0 (xI v 17 a) i l (e.1, a, e.2.2) := by
  refine ⟨cfr_tr h.1 (cfr_I (by decide)), h.2.1, h.2.2.1, ?_⟩
  rw [← h.2.2.2]
  rfl
theorem CE.uL {a : Int64} (h : CE v0 v i l e) : CE v0 (xL v 0 a) i l (e.1, e.2.1, a, e.2.2.2) := by
  refine ⟨cfr_tr h.1 cfr_L, h.2.1, h.2.2.1, ?_⟩
  rw [← h.2.2.2]
  rfl
theorem CE.x13 {a : Int32} {m : Nat} (h : CE v0 v i l e) (ha : a.toInt = m) : CE v0 (xI v 13 a) i m e := ⟨cfr_tr h.1 (cfr_I (by decide)), h.2.1, ha, h.2.2.2⟩
theorem CE.uPI {q c : Nat} {a : Int32} (h : CE v0 v i l e) (hc : c ∈ [13, 14]) : CE v0 (xpI v q c a) i l e := ⟨cfr_tr h.1 (cfr_pI hc), h.2.1, h.2.2.1, h.2.2.2⟩
theorem CE.uPA {q c k : Nat} {a : Int32} (h : CE v0 v i l e) (hc : c ∈ [11, 12, 13, 14]) : CE v0 (xpA v q c k a) i l e := ⟨cfr_tr h.1 (cfr_pA hc), h.2.1, h.2.2.1, h.2.2.2⟩
theorem CE.uPB {q c k : Nat} {a : Int64} (h : CE v0 v i l e) : CE v0 (xpB v q c k a) i l e := ⟨cfr_tr h.1 cfr_pB, h.2.1, h.2.2.1, h.2.2.2⟩
/-! programs -/
theorem k2_type {k : Int32 → CSt → Option (β × CSt)} (h : CE v0 v i l e) (kk : pq (k (tyF v0 i) v) Q) : pq (bc (F_X9_type N v) k) Q := by
  refine pq_bc ?_
  unfold F_X9_type B_X9_type_0
  refine pq_rd (pq_some ?_)
  rw [h.row (by decide), h.nat]
  exact kk
theorem k2_is {t : Int32} {k : Int32 → CSt → Option (β × CSt)} (h : CE v0 v i l e) (k1 : tyF v0 i = t → pq (k 1 v) Q) (k0 : ¬ tyF v0 i = t → pq (k 0 v) Q) : pq (bc (F_X9_is N t v) k) Q := by
  refine pq_bc ?_
  unfold F_X9_is B_X9_is_0
  refine pq_rd ?_
  rw [h.row (by decide), h.nat]
  exact pq_if (fun c => pq_some (k1 c)) (fun c => pq_some (k0 c))
theorem k2_if {t : Int32} {P R : CSt → Option (β × CSt)} (h : CE v0 v i l e) (k1 : tyF v0 i = t → pq (R v) Q) (k0 : ¬ tyF v0 i = t → pq (P v) Q) : pq (bc (F_X9_is N t v) fun r w => if r = (0 : Int32) then P w else R w) Q :=
  k2_is h (fun c => by rw [if_neg (by decide)]; exact k1 c) (fun c => by rw [if_pos rfl]; exact k0 c)
theorem k2_kw {P R : CSt → Option (β × CSt)} (h : CE v0 v i l e) (k1 : (12 ≤ tyF v0 i ∧ tyF v0 i ≤ 16) → pq (R v) Q) (k0 : ¬ (12 ≤ tyF v0 i ∧ tyF v0 i ≤ 16) → pq (P v) Q) : pq (bc (F_X9_isKindWord N v) fun r w => if r = (0 : Int32) then P w else R w) Q := by
  refine pq_bc ?_
  unfold F_X9_isKindWord B_X9_isKindWord_0
  refine pq_rd (pq_if (fun c => pq_some ?_) (fun c => pq_rd (pq_if (fun c2 => pq_some ?_) (fun c2 => pq_some ?_))))
  · rw [h.row (by decide), h.nat] at c
    rw [if_pos rfl]
    exact k0 (fun q => absurd q.1 (Int32.not_le.mpr c))
  · rw [h.row (by decide), h.nat] at c2
    rw [if_pos rfl]
    exact k0 (fun q => absurd q.2 (Int32.not_le.mpr c2))
  · rw [h.row (by decide), h.nat] at c c2
    rw [if_neg (by decide)]
    exact k1 ⟨Int32.not_lt.mp c, Int32.not_lt.mp c2⟩
theorem k2_here {k : Int32 → CSt → Option (β × CSt)} (h : CE v0 v i l e) (kk : pq (k (cA v0 204 i) v) Q) : pq (bc (F_X9_here N v) k) Q := by
  refine pq_bc ?_
  unfold F_X9_here B_X9_here_0
  refine pq_rd (pq_some ?_)
  rw [h.row (by decide), h.nat]
  exact kk
theorem k2_head {k : Int64 → CSt → Option (β × CSt)} (h : CE v0 v i l e) (kk : pq (k (cB v0 205 i) v) Q) : pq (bc (F_X9_head N v) k) Q := by
  refine pq_bc ?_
  unfold F_X9_head B_X9_head_0
  refine pq_rd (pq_some ?_)
  rw [h.val, h.nat]
  exact kk
theorem k2_tail {k : Int32 → CSt → Option (β × CSt)} (h : CE v0 v i l e) (kk : pq (k (cA v0 206 i) v) Q) : pq (bc (F_X9_tail N v) k) Q := by
  refine pq_bc ?_
  unfold F_X9_tail B_X9_tail_0
  refine pq_rd (pq_some ?_)
  rw [h.row (by decide), h.nat]
  exact kk
theorem k2_wide {k : Int32 → CSt → Option (β × CSt)} (h : CE v0 v i l e) (kk : pq (k (if cA v0 206 i &&& 1 = 0 then 0 else 1) v) Q) : pq (bc (F_X9_isWide N v) k) Q := by
  refine pq_bc ?_
  unfold F_X9_isWide B_X9_isWide_0
  refine pq_rd ?_
  rw [h.row (by decide), h.nat]
  refine pq_if (fun c => pq_some ?_) (fun c => pq_some ?_)
  · rw [if_pos c] at kk; exact kk
  · rw [if_neg c] at kk; exact kk
theorem k2_next {k : Int32 → CSt → Option (β × CSt)} (hb : TB v0 n) (h : CE v0 v i l e) (hi : i < n) (kk : ∀ w, CE v0 w (i + 1) l e → pq (k 0 w) Q) : pq (bc (F_X9_next N v) k) Q := by
  refine pq_bc ?_
  unfold F_X9_next B_X9_next_0
  obtain ⟨b1, b2, b3⟩ := hb
  have e1 : (1 : Int32).toInt = 1 := by decide
  have s4 : cI v 4 = cI v0 4 := h.1.1 4 (by decide)
  have h5 := h.2.1
  refine pq_if (fun c => ?_) (fun c => pq_pc (pq_some (kk _ (h.x5 ?_))))
  · have := Int32.le_iff_toInt_le.mp c
    rw [s4, b1] at this
    omega
  · rw [tI_add (by omega) (by omega), e1]
    omega
theorem k2_ahead {m : Nat} {t : Int32} {k : Int32 → CSt → Option (β × CSt)} (hb : TB v0 n) (h : CE v0 v i l e) (ht : t.toInt = m) (hi : i + m ≤ n) (kk : pq (k (tyF v0 (i + m)) v) Q) : pq (bc (F_X9_typeAhead N t v) k) Q := by
  refine pq_bc ?_
  unfold F_X9_typeAhead B_X9_typeAhead_0
  obtain ⟨b1, b2, b3⟩ := hb
  have s4 : cI v 4 = cI v0 4 := h.1.1 4 (by decide)
  have h5 := h.2.1
  have e2 : (cI v 5 + t).toInt = (i + m : Nat) := by rw [tI_add (by omega) (by omega)]; omega
  refine pq_if (fun c => ?_) (fun c => pq_rd (pq_some ?_))
  · have := Int32.lt_iff_toInt_lt.mp c
    rw [s4, b1, e2] at this
    omega
  · have e3 : (cI v 5 + t).toNatClampNeg = i + m := by
      show (cI v 5 + t).toInt.toNat = i + m
      omega
    rw [h.row (by decide), e3]
    exact kk
theorem k2_kind {k : Int32 → CSt → Option (β × CSt)} (hb : TB v0 n) (h : CE v0 v i l e) (hi : i < n) (kk : ∀ w, CE v0 w (i + 1) l e → pq (k (tyF v0 i - 12) w) Q) : pq (bc (F_X9_takeKind N v) k) Q := by
  refine pq_bc ?_
  unfold F_X9_takeKind B_X9_takeKind_0
  refine pq_rd ?_
  rw [h.row (by decide), h.nat]
  exact k2_next hb h hi (fun w hw => pq_some (kk w hw))
theorem k2_step {q : Nat} {a b c d : Int32} {k : Int32 → CSt → Option (β × CSt)} (h : CE v0 v i l e) (kk : ∀ r w, CE v0 w i l e → pq (k r w) Q) : pq (bc (F_X6_step N q a b c d v) k) Q := by
  refine pq_bc ?_
  unfold F_X6_step B_X6_step_0
  refine pq_if (fun _ => ?_) (fun _ => pq_some (kk _ _ h))
  refine pq_wc (pq_wc (pq_wc (pq_wc (pq_pc (pq_some (kk _ _ ?_))))))
  exact ((((h.uPA (by decide)).uPA (by decide)).uPA (by decide)).uPA (by decide)).uPI (by decide)
theorem k2_cost {q : Nat} {a : Int32} {k : Int32 → CSt → Option (β × CSt)} (h : CE v0 v i l e) (kk : ∀ w, CE v0 w i l e → pq (k 0 w) Q) : pq (bc (F_X6_cost N q a v) k) Q := by
  refine pq_bc ?_
  unfold F_X6_cost B_X6_cost_0
  exact k2_step h (fun _ w hw => pq_some (kk w hw))
theorem k2_const {q : Nat} {a : Int64} {b c : Int32} {k : Int32 → CSt → Option (β × CSt)} (h : CE v0 v i l e) (kk : ∀ w, CE v0 w i l e → pq (k 0 w) Q) : pq (bc (F_X6_constant N q a b c v) k) Q := by
  refine pq_bc ?_
  unfold F_X6_constant B_X6_constant_0
  exact k2_step h (fun _ w hw => pq_some (kk w hw))
theorem k2_label {q : Nat} {a b : Int64} {k : Int32 → CSt → Option (β × CSt)} (h : CE v0 v i l e) (kk : ∀ w, CE v0 w i l e → pq (k 0 w) Q) : pq (bc (F_X6_label N q a b v) k) Q := by
  refine pq_bc ?_
  unfold F_X6_label B_X6_label_0
  exact pq_if (fun _ => pq_some (kk _ h)) (fun _ => pq_wc (pq_wc (pq_pc (pq_some (kk _ ((h.uPB.uPB).uPI (by decide)))))))
theorem k2_land {q : Nat} {a : Int32} {k : Int32 → CSt → Option (β × CSt)} (h : CE v0 v i l e) (kk : ∀ w, CE v0 w i l e → pq (k 0 w) Q) : pq (bc (F_X6_land N q a v) k) Q := by
  have loop : ∀ (M : Nat) (x : Nat × Int32 × Int32 × CSt), CE v0 x.2.2.2 i l e → pq (LP_X6_land_4 N M x) (fun r w => r = 0 ∧ CE v0 w i l e) := by
    refine pq_lp (Z := fun _ r w => r = 0 ∧ CE v0 w i l e) (fun (x : Nat × Int32 × Int32 × CSt) => CE v0 x.2.2.2 i l e) ?_
    rintro R ⟨x1, x2, x3, z⟩ hz ih
    dsimp only at hz
    show pq (B_X6_land_4 N R x1 x2 x3 z) _
    unfold B_X6_land_4
    refine pq_if (fun _ => pq_some ⟨rfl, hz⟩) (fun _ => pq_if (fun _ => pq_some ⟨rfl, hz⟩) (fun _ => pq_if (fun _ => pq_some ⟨rfl, hz⟩) (fun _ => pq_rd (pq_wc ?_))))
    exact ih _ (hz.uPA (by decide))
  refine pq_bc (pq_m (loop N (q, a, 0, v) h) (fun r w hw => ?_))
  rw [hw.1]
  exact kk w hw.2
end CEs
