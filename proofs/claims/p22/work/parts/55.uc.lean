/-! Ranges that every number of the class keeps, whatever is called. -/
def rI (k : Nat) : Int × Int := if k = 0 then (0, 6000) else if k = 3 then (0, 6000) else if k = 4 then (0, 1500) else if k = 5 then (0, 1500) else if k = 9 then (0, 16) else if k = 10 then (0, 100) else if k = 11 then (0, 99) else if k = 12 then (0, 3500) else if k = 16 then (0, 250) else if k = 17 then (0, 1) else if k = 21 then (0, 8) else if k = 25 then (0, 1) else (-2147483648, 2147483647)
def rP (k : Nat) : Int × Int := if k = 12 then (0, 160) else if k = 13 then (0, 3200) else if k = 14 then (0, 750) else (-2147483648, 2147483647)
def rT (k : Nat) : Int × Int := if k = 3 then (0, 1) else (-2147483648, 2147483647)
def rM (k : Nat) : Int × Int := if k = 3 then (-1, 159) else if k = 4 then (0, 2147483647) else if k = 5 then (0, 4) else if k = 7 then (0, 300) else if k = 8 then (0, 1) else if k = 9 then (0, 3500) else (-2147483648, 2147483647)
def isImg (o : Int32) : Prop := o.toInt = 5 ∨ o.toInt = 6 ∨ o.toInt = 9 ∨ o.toInt = 69 ∨ o.toInt = 70 ∨ o.toInt = 73
def UC (u : CSt) : Prop := (∀ k, (rI k).1 ≤ (cI u k).toInt ∧ (cI u k).toInt ≤ (rI k).2) ∧ (∀ q k, (rP k).1 ≤ (pI u q k).toInt ∧ (pI u q k).toInt ≤ (rP k).2) ∧ (∀ (q : Nat) (i : Int32), 0 ≤ (pA u q 9 i.toNatClampNeg).toInt ∧ (pA u q 9 i.toNatClampNeg).toInt ≤ 160 ∧ (i.toInt = 2 → (pA u q 9 i.toNatClampNeg).toInt ≤ 8)) ∧ (∀ q k, (rT k).1 ≤ (tI u q k).toInt ∧ (tI u q k).toInt ≤ (rT k).2) ∧ (∀ q k, (rM k).1 ≤ (mI u q k).toInt ∧ (mI u q k).toInt ≤ (rM k).2) ∧ (∀ k, cR u k < 2) ∧ (∀ q i, isImg (pA u q 11 i) → 0 ≤ (pA u q 13 i).toInt ∧ (pA u q 13 i).toInt ≤ 4)
section Uc
variable {u u0 w : CSt} {W : List Nat}
theorem UC.i (h : UC u) (k : Nat) : (rI k).1 ≤ (cI u k).toInt ∧ (cI u k).toInt ≤ (rI k).2 := h.1 k
theorem UC.p (h : UC u) (q k : Nat) : (rP k).1 ≤ (pI u q k).toInt ∧ (pI u q k).toInt ≤ (rP k).2 := h.2.1 q k
theorem UC.s (h : UC u) (q : Nat) (i : Int32) : 0 ≤ (pA u q 9 i.toNatClampNeg).toInt ∧ (pA u q 9 i.toNatClampNeg).toInt ≤ 160 ∧ (i.toInt = 2 → (pA u q 9 i.toNatClampNeg).toInt ≤ 8) := h.2.2.1 q i
theorem UC.t (h : UC u) (q k : Nat) : (rT k).1 ≤ (tI u q k).toInt ∧ (tI u q k).toInt ≤ (rT k).2 := h.2.2.2.1 q k
theorem UC.m (h : UC u) (q k : Nat) : (rM k).1 ≤ (mI u q k).toInt ∧ (mI u q k).toInt ≤ (rM k).2 := h.2.2.2.2.1 q k
theorem UC.r (h : UC u) (k : Nat) : cR u k < 2 := h.2.2.2.2.2.1 k
theorem UC.g (h : UC u) (q i : Nat) : isImg (pA u q 11 i) → 0 ≤ (pA u q 13 i).toInt ∧ (pA u q 13 i).toInt ≤ 4 := h.2.2.2.2.2.2 q i
theorem UC.xI {k : Nat} {v : Int32} (h : UC u) (h1 : (rI k).1 ≤ v.toInt) (h2 : v.toInt ≤ (rI k).2) : UC (xI u k v) := by
  refine ⟨fun j => ?_, h.2⟩
  show (rI j).1 ≤ (if j = k then v else u.1 j).toInt ∧ (if j = k then v else u.1 j).toInt ≤ (rI j).2
  by_cases q : j = k
  · rw [if_pos q, q]; exact ⟨h1, h2⟩
  · rw [if_neg q]; exact h.1 j
theorem UC.xL {k : Nat} {v : Int64} (h : UC u) : UC (xL u k v) := h
theorem UC.xA {k i : Nat} {v : Int32} (h : UC u) : UC (xA u k i v) := h
theorem UC.xB {k i : Nat} {v : Int64} (h : UC u) : UC (xB u k i v) := h
theorem UC.xF {k : Nat} {g : Nat → Int32} (h : UC u) : UC (xF u k g) := h
theorem UC.xG {k : Nat} {g : Nat → Int64} (h : UC u) : UC (xG u k g) := h
theorem UC.xpB {q k i : Nat} {v : Int64} (h : UC u) : UC (xpB u q k i v) := h
theorem UC.xmL {q k : Nat} {v : Int64} (h : UC u) : UC (xmL u q k v) := h
theorem UC.xpI {q k : Nat} {v : Int32} (h : UC u) (h1 : (rP k).1 ≤ v.toInt) (h2 : v.toInt ≤ (rP k).2) : UC (xpI u q k v) := by
  refine ⟨h.1, fun p j => ?_, h.2.2⟩
  show (rP j).1 ≤ (if p = q then (if j = k then v else pI u p j) else pI u p j).toInt ∧ (if p = q then (if j = k then v else pI u p j) else pI u p j).toInt ≤ (rP j).2
  by_cases e : p = q
  · rw [if_pos e]
    by_cases q : j = k
    · rw [if_pos q, q]; exact ⟨h1, h2⟩
    · rw [if_neg q]; exact h.p p j
  · rw [if_neg e]; exact h.p p j
theorem UC.xtI {q k : Nat} {v : Int32} (h : UC u) (h1 : (rT k).1 ≤ v.toInt) (h2 : v.toInt ≤ (rT k).2) : UC (xtI u q k v) := by
  refine ⟨h.1, h.2.1, h.2.2.1, fun p j => ?_, h.2.2.2.2⟩
  show (rT j).1 ≤ (if p = q then (if j = k then v else tI u p j) else tI u p j).toInt ∧ (if p = q then (if j = k then v else tI u p j) else tI u p j).toInt ≤ (rT j).2
  by_cases e : p = q
  · rw [if_pos e]
    by_cases q : j = k
    · rw [if_pos q, q]; exact ⟨h1, h2⟩
    · rw [if_neg q]; exact h.t p j
  · rw [if_neg e]; exact h.t p j
theorem UC.xmI {q k : Nat} {v : Int32} (h : UC u) (h1 : (rM k).1 ≤ v.toInt) (h2 : v.toInt ≤ (rM k).2) : UC (xmI u q k v) := by
  refine ⟨h.1, h.2.1, h.2.2.1, h.2.2.2.1, fun p j => ?_, h.2.2.2.2.2⟩
  show (rM j).1 ≤ (if p = q then (if j = k then v else mI u p j) else mI u p j).toInt ∧ (if p = q then (if j = k then v else mI u p j) else mI u p j).toInt ≤ (rM j).2
  by_cases e : p = q
  · rw [if_pos e]
    by_cases q : j = k
    · rw [if_pos q, q]; exact ⟨h1, h2⟩
    · rw [if_neg q]; exact h.m p j
  · rw [if_neg e]; exact h.m p j
theorem UC.xR {k v : Nat} (h : UC u) (h1 : v < 2) : UC (xR u k v) := by
  refine ⟨h.1, h.2.1, h.2.2.1, h.2.2.2.1, h.2.2.2.2.1, fun j => ?_, h.2.2.2.2.2.2⟩
  show (if j = k then v else cR u j) < 2
  by_cases q : j = k
  · rw [if_pos q]; exact h1
  · rw [if_neg q]; exact h.r j
theorem pA_ne {q k i : Nat} {v : Int32} {p j : Nat} (hk : j ≠ k) : pA (xpA u q k i v) p j = pA u p j := by
  show (if p = q then (if j = k then upd (pA u p j) i v else pA u p j) else pA u p j) = _
  by_cases e : p = q
  · rw [if_pos e, if_neg hk]
  · rw [if_neg e]
theorem pA_ne2 {q k i : Nat} {v : Int32} {p j x : Nat} (hk : p ≠ q ∨ j ≠ k ∨ x ≠ i) : pA (xpA u q k i v) p j x = pA u p j x := by
  show (if p = q then (if j = k then upd (pA u p j) i v else pA u p j) else pA u p j) x = _
  by_cases e : p = q
  · rw [if_pos e]
    by_cases q : j = k
    · rw [if_pos q]
      unfold upd
      rw [if_neg (by omega)]
    · rw [if_neg q]
  · rw [if_neg e]
theorem pA_eq {q k i : Nat} {v : Int32} : pA (xpA u q k i v) q k i = v := by
  show (if q = q then (if k = k then upd (pA u q k) i v else pA u q k) else pA u q k) i = v
  rw [if_pos rfl, if_pos rfl]
  unfold upd
  rw [if_pos rfl]
theorem UC.xpA {q k i : Nat} {v : Int32} (h : UC u) (hk : k ≠ 9 ∧ k ≠ 11 ∧ k ≠ 13) : UC (xpA u q k i v) := by
  refine ⟨h.1, h.2.1, fun p j => ?_, h.2.2.2.1, h.2.2.2.2.1, h.2.2.2.2.2.1, fun p j => ?_⟩
  · rw [pA_ne (Ne.symm hk.1)]; exact h.s p j
  · rw [pA_ne (Ne.symm hk.2.1), pA_ne (Ne.symm hk.2.2)]; exact h.g p j
def FR (W : List Nat) (u w : CSt) : Prop := (∀ k, k ∉ W → w.1 k = u.1 k) ∧ ∀ k, k = 203 ∨ k = 228 → k ∉ W → cA w k = cA u k
theorem FR.rf : FR W u u := ⟨fun _ _ => rfl, fun _ _ _ => rfl⟩
theorem FR.of (h : FR W u0 u) (h1 : w.1 = u.1) (h2 : w.2.2.1 = u.2.2.1) : FR W u0 w := ⟨fun k hk => by rw [h1]; exact h.1 k hk, fun k h3 hk => by show w.2.2.1 k = _; rw [h2]; exact h.2 k h3 hk⟩
theorem FR.xI {k : Nat} {v : Int32} (h : FR W u0 u) (hk : k ∈ W) : FR W u0 (xI u k v) := by
  refine ⟨fun j hj => ?_, h.2⟩
  show (if j = k then v else u.1 j) = _
  rw [if_neg (fun e : j = k => hj (e ▸ hk))]
  exact h.1 j hj
theorem FR.xA {k i : Nat} {v : Int32} (h : FR W u0 u) (hk : (k ≠ 203 ∧ k ≠ 228) ∨ k ∈ W) : FR W u0 (xA u k i v) := by
  refine ⟨h.1, fun j h3 hj => ?_⟩
  show (if j = k then upd (cA u k) i v else cA u j) = _
  rw [if_neg (fun e : j = k => hk.elim (fun q => by omega) (fun q => hj (e ▸ q)))]
  exact h.2 j h3 hj
theorem FR.xF {k : Nat} {g : Nat → Int32} (h : FR W u0 u) (hk : (k ≠ 203 ∧ k ≠ 228) ∨ k ∈ W) : FR W u0 (xF u k g) := by
  refine ⟨h.1, fun j h3 hj => ?_⟩
  show (if j = k then g else cA u j) = _
  rw [if_neg (fun e : j = k => hk.elim (fun q => by omega) (fun q => hj (e ▸ q)))]
  exact h.2 j h3 hj
theorem FR.call {W2 : List Nat} (h : FR W u0 u) (h2 : FR W2 u w) (hs : ∀ k ∈ W2, k ∈ W) : FR W u0 w := ⟨fun k hk => (h2.1 k (fun q => hk (hs k q))).trans (h.1 k hk), fun k h3 hk => (h2.2 k h3 (fun q => hk (hs k q))).trans (h.2 k h3 hk)⟩
def VP {β : Type} (W : List Nat) (P : β → CSt → Prop) (u : CSt) : β → CSt → Prop := fun r w => UC w ∧ FR W u w ∧ P r w
def VS {β : Type} (W E : List Nat) (P : β → CSt → Prop) (u : CSt) : Sum Nat β → CSt → Prop := fun y w => UC w ∧ FR W u w ∧ ((∃ x, y = .inl x ∧ x ∈ E) ∨ ∃ r, y = .inr r ∧ P r w)
def VR {β : Type} (P : β → Prop) (u : CSt) : β → CSt → Prop := fun r w => w = u ∧ P r
theorem wq_rdU {α β : Type} {f : Nat → α} {n : Nat} {i : Int32} {k : α → Option (β × CSt)} {Q : β → CSt → Prop} (h : vp_in i n) (hk : ∀ v, v = f i.toNatClampNeg → wq (k v) Q) : wq (rd f n i k) Q := wq_rd.mpr ⟨h, hk _ rfl⟩
theorem wq_pbU {α β : Type} {x : Option α} {k : α → Option (β × CSt)} {P : α → Prop} {Q : β → CSt → Prop} (h : ∃ r, x = some r ∧ P r) (hk : ∀ r, P r → wq (k r) Q) : wq (pb x k) Q := by
  obtain ⟨r, e, p⟩ := h
  exact wq_pb.mpr ⟨r, e, hk r p⟩
theorem wq_bcR {α β : Type} {X : Option (α × CSt)} {k : α → CSt → Option (β × CSt)} {P : α → Prop} {Q : β → CSt → Prop} (h : wq X (VR P u)) (hk : ∀ r, P r → wq (k r u) Q) : wq (bc X k) Q := wq_bc.mpr (wq_mono h (fun r w hw => by rw [hw.1]; exact hk r hw.2))
theorem wq_bcV {α β : Type} {X : Option (α × CSt)} {k : α → CSt → Option (β × CSt)} {P : α → CSt → Prop} {Q : β → CSt → Prop} (h : wq X (VP W P u)) (hk : ∀ r w, UC w → FR W u w → P r w → wq (k r w) Q) : wq (bc X k) Q := wq_bc.mpr (wq_mono h (fun r w hw => hk r w hw.1 hw.2.1 hw.2.2))
theorem wq_btV {α γ : Type} {E : List Nat} {X : Option (Sum Nat α × CSt)} {k : α → CSt → Option (Sum Nat γ × CSt)} {P : α → CSt → Prop} {Q : Sum Nat γ → CSt → Prop} (h : wq X (VS W E P u)) (hx : ∀ x w, x ∈ E → UC w → FR W u w → Q (.inl x) w) (hk : ∀ r w, UC w → FR W u w → P r w → wq (k r w) Q) : wq (bt X k) Q := by
  refine wq_bt.mpr (wq_mono h (fun y w hw => ?_))
  obtain ⟨h1, h2, ⟨x, e, he⟩ | ⟨r, e, hp⟩⟩ := hw
  · exact ⟨fun z hz => (by rw [e] at hz; cases hz; exact hx x w he h1 h2), fun r hr => (by rw [e] at hr; cases hr)⟩
  · exact ⟨fun z hz => (by rw [e] at hz; cases hz), fun r2 hr => (by rw [e] at hr; cases hr; exact hk r w h1 h2 hp)⟩
end Uc
theorem i32_b (a : Int32) : -2147483648 ≤ a.toInt ∧ a.toInt ≤ 2147483647 := ⟨by have := Int32.le_toInt a; omega, by have := Int32.toInt_lt a; omega⟩
theorem tI_ad (a b : Int32) : -2147483648 ≤ a.toInt + b.toInt → a.toInt + b.toInt ≤ 2147483647 → (a + b).toInt = a.toInt + b.toInt := fun h1 h2 => tI_add h1 h2
theorem tI_sb (a b : Int32) : -2147483648 ≤ a.toInt - b.toInt → a.toInt - b.toInt ≤ 2147483647 → (a - b).toInt = a.toInt - b.toInt := fun h1 h2 => tI_sub h1 h2
theorem tI_ne {a b : Int32} (h : ¬ a = b) : ¬ a.toInt = b.toInt := fun q => h (tI_eq.mpr q)
theorem i32_01 (v : Int32) (h1 : 0 ≤ v.toInt) (h2 : v.toInt ≤ 1) : v = 0 ∨ v = 1 := by
  rcases (show v.toInt = 0 ∨ v.toInt = 1 by omega) with q | q
  · exact Or.inl (tI_eq.mpr (by rw [q]; decide))
  · exact Or.inr (tI_eq.mpr (by rw [q]; decide))
theorem i32_rem (a c : Int32) : 0 ≤ a.toInt → 0 < c.toInt → 0 ≤ (a - a / c * c).toInt ∧ (a - a / c * c).toInt < c.toInt := by
  intro h1 h2
  have b1 := i32_b a
  have b2 := i32_b c
  have e1 : (a / c).toInt = a.toInt / c.toInt := by
    rw [Int32.toInt_div, Int.tdiv_eq_ediv_of_nonneg h1]
    have q1 : 0 ≤ a.toInt / c.toInt := Int.ediv_nonneg h1 (by omega)
    have q2 : a.toInt / c.toInt ≤ a.toInt := Int.ediv_le_self _ h1
    exact Int.bmod_eq_of_le (by omega) (by omega)
  have m0 : 0 ≤ a.toInt / c.toInt * c.toInt := Int.mul_nonneg (Int.ediv_nonneg h1 (by omega)) (by omega)
  have m1 : a.toInt / c.toInt * c.toInt + a.toInt % c.toInt = a.toInt := Int.ediv_mul_add_emod _ _
  have m2 : 0 ≤ a.toInt % c.toInt := Int.emod_nonneg _ (by omega)
  have m3 : a.toInt % c.toInt < c.toInt := Int.emod_lt_of_pos _ h2
  have e2 : (a / c * c).toInt = a.toInt / c.toInt * c.toInt := by rw [tI_mul (by rw [e1]; omega) (by rw [e1]; omega), e1]
  have e3 : (a - a / c * c).toInt = a.toInt - a.toInt / c.toInt * c.toInt := by rw [tI_sub (by rw [e2]; omega) (by rw [e2]; omega), e2]
  rw [e3]
  omega
theorem pu_if {α : Type} {c : Prop} {d : Decidable c} {a b : Option α} (h1 : ∃ r, a = some r ∧ True) (h2 : ∃ r, b = some r ∧ True) : ∃ r, (if c then a else b) = some r ∧ True := by
  by_cases h : c
  · rw [if_pos h]; exact h1
  · rw [if_neg h]; exact h2
theorem im_sub {v : Int32} (h1 : 64 ≤ v.toInt) (hh : (v + (-64)).toInt = 5 ∨ (v + (-64)).toInt = 6 ∨ (v + (-64)).toInt = 9) : isImg v := by
  have e0 : (-64 : Int32).toInt = -64 := by decide
  have b := i32_b v
  have e : (v + (-64)).toInt = v.toInt + -64 := by
    rw [← e0]
    exact tI_add (by rw [e0]; omega) (by rw [e0]; omega)
  rw [e] at hh
  unfold isImg
  omega
theorem im_of {v : Int32} (hh : v.toInt = 5 ∨ v.toInt = 6 ∨ v.toInt = 9) : isImg v := by
  unfold isImg
  omega
theorem tI_m8 (v : Int32) : -2147483648 ≤ v.toInt - 8 → (v + (-8)).toInt = v.toInt - 8 := by
  intro h
  have e0 : (-8 : Int32).toInt = -8 := by decide
  have b := i32_b v
  have e : (v + (-8)).toInt = v.toInt + -8 := by
    rw [← e0]
    exact tI_add (by rw [e0]; omega) (by rw [e0]; omega)
  rw [e]
  omega
theorem tI_m64 (v : Int32) : -2147483648 ≤ v.toInt - 64 → (v + (-64)).toInt = v.toInt - 64 := by
  intro h
  have e0 : (-64 : Int32).toInt = -64 := by decide
  have b := i32_b v
  have e : (v + (-64)).toInt = v.toInt + -64 := by
    rw [← e0]
    exact tI_add (by rw [e0]; omega) (by rw [e0]; omega)
  rw [e]
  omega
