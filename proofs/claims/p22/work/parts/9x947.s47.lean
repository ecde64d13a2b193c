/-! The second pass: Items. What stays while a name is told; the tables grow by a name. -/
def cfT (M : List Nat) (v w : CSt) : Prop := (∀ k, k ∉ [5, 13, 14, 15, 16, 17] → cI w k = cI v k) ∧ (∀ k, k ∉ [230, 231, 232, 233] → cA w k = cA v k) ∧ w.2.2.2.1 = v.2.2.2.1 ∧ (∀ q k, k ∉ [13, 14] → pI w q k = pI v q k) ∧ (∀ q k, k ∉ [11, 12, 13, 14] → pA w q k = pA v q k) ∧ w.2.2.2.2.2.2.2.1 = v.2.2.2.2.2.2.2.1 ∧ (∀ m k, m ∉ M → mI w m k = mI v m k) ∧ (∀ m k, m ∉ M → mL w m k = mL v m k) ∧ w.2.2.2.2.2.2.2.2.2.2 = v.2.2.2.2.2.2.2.2.2.2
def tkC (v w : CSt) : Prop := cI w 4 = cI v 4 ∧ cA w 203 = cA v 203 ∧ cA w 204 = cA v 204 ∧ cA w 206 = cA v 206 ∧ cB w 205 = cB v 205 ∧ cR w 2 = cR v 2 ∧ cR w 3 = cR v 3 ∧ cI w 7 = cI v 7
def tkR (u x : RSt) : Prop := x.2.2.1 2 = u.2.2.1 2 ∧ x.2.2.1 3 = u.2.2.1 3 ∧ x.2.2.1 5 = u.2.2.1 5 ∧ x.2.2.2 4 = u.2.2.2 4 ∧ x.2.2.2 6 = u.2.2.2 6 ∧ x.2.2.2 7 = u.2.2.2 7 ∧ x.1 69 = u.1 69
section Frm
variable {v w z : CSt} {u x y : RSt} {M : List Nat} {n : Nat}
theorem cfT_rf : cfT M v v := ⟨fun _ _ => rfl, fun _ _ => rfl, rfl, fun _ _ _ => rfl, fun _ _ _ => rfl, rfl, fun _ _ _ => rfl, fun _ _ _ => rfl, rfl⟩
theorem cfT_tr (h : cfT M v w) (h2 : cfT M w z) : cfT M v z := by
  obtain ⟨a1, a2, a3, a4, a5, a6, a7, a8, a9⟩ := h
  obtain ⟨b1, b2, b3, b4, b5, b6, b7, b8, b9⟩ := h2
  exact ⟨fun k hk => (b1 k hk).trans (a1 k hk), fun k hk => (b2 k hk).trans (a2 k hk), b3.trans a3, fun q k hk => (b4 q k hk).trans (a4 q k hk), fun q k hk => (b5 q k hk).trans (a5 q k hk), b6.trans a6, fun m k hm => (b7 m k hm).trans (a7 m k hm), fun m k hm => (b8 m k hm).trans (a8 m k hm), b9.trans a9⟩
theorem cfT_c (h : cfr v w) : cfT M v w := by
  obtain ⟨a1, a2, a3, a4, a5, a6⟩ := h
  refine ⟨a1, a2, a3, a4, a5, ?_, fun m k _ => ?_, fun m k _ => ?_, ?_⟩
  · rw [a6]
  · show w.2.2.2.2.2.2.2.2.1 m k = v.2.2.2.2.2.2.2.2.1 m k
    rw [a6]
  · show w.2.2.2.2.2.2.2.2.2.1 m k = v.2.2.2.2.2.2.2.2.2.1 m k
    rw [a6]
  · rw [a6]
theorem cfr_m (h : cfr v w) (m k : Nat) : mI w m k = mI v m k := by
  show w.2.2.2.2.2.2.2.2.1 m k = v.2.2.2.2.2.2.2.2.1 m k
  rw [h.2.2.2.2.2]
theorem cfr_l (h : cfr v w) (m k : Nat) : mL w m k = mL v m k := by
  show w.2.2.2.2.2.2.2.2.2.1 m k = v.2.2.2.2.2.2.2.2.2.1 m k
  rw [h.2.2.2.2.2]
theorem mL_ne {q k : Nat} {a : Int64} {p m : Nat} (h : p ≠ q ∨ m ≠ k) : mL (xmL v q k a) p m = mL v p m := by
  show (if p = q then (if m = k then a else mL v p m) else mL v p m) = _
  by_cases e : p = q
  · rw [if_pos e, if_neg (by omega)]
  · rw [if_neg e]
theorem mL_eq {q k : Nat} {a : Int64} : mL (xmL v q k a) q k = a := by
  show (if q = q then (if k = k then a else mL v q k) else mL v q k) = a
  rw [if_pos rfl, if_pos rfl]
theorem cfT_mI {m k : Nat} {a : Int32} (hm : m ∈ M) : cfT M v (xmI v m k a) := ⟨fun _ _ => rfl, fun _ _ => rfl, rfl, fun _ _ _ => rfl, fun _ _ _ => rfl, rfl, fun p j hp => mI_ne (Or.inl (fun e => hp (by rw [e]; exact hm))), fun _ _ _ => rfl, rfl⟩
theorem cfT_mL {m k : Nat} {a : Int64} (hm : m ∈ M) : cfT M v (xmL v m k a) := ⟨fun _ _ => rfl, fun _ _ => rfl, rfl, fun _ _ _ => rfl, fun _ _ _ => rfl, rfl, fun _ _ _ => rfl, fun p j hp => mL_ne (Or.inl (fun e => hp (by rw [e]; exact hm))), rfl⟩
theorem cfT_tk (h : cfT M v w) : tkC v w := by
  obtain ⟨a1, a2, a3, a4, a5, a6, a7, a8, a9⟩ := h
  refine ⟨a1 4 (by decide), a2 203 (by decide), a2 204 (by decide), a2 206 (by decide), ?_, ?_, ?_, a1 7 (by decide)⟩
  · show w.2.2.2.1 205 = v.2.2.2.1 205
    rw [a3]
  · show w.2.2.2.2.2.2.2.2.2.2 2 = v.2.2.2.2.2.2.2.2.2.2 2
    rw [a9]
  · show w.2.2.2.2.2.2.2.2.2.2 3 = v.2.2.2.2.2.2.2.2.2.2 3
    rw [a9]
theorem rfr_tk (h : rfr u x) : tkR u x := ⟨h.2.1 2 (by decide), h.2.1 3 (by decide), h.2.1 5 (by decide), h.2.2 4 (by decide), h.2.2 6 (by decide), h.2.2 7 (by decide), h.1 69 (by decide)⟩
theorem tkC_rf : tkC v v := ⟨rfl, rfl, rfl, rfl, rfl, rfl, rfl, rfl⟩
theorem tkR_rf : tkR u u := ⟨rfl, rfl, rfl, rfl, rfl, rfl, rfl⟩
theorem tkC_tr (h : tkC v w) (h2 : tkC w z) : tkC v z := ⟨h2.1.trans h.1, h2.2.1.trans h.2.1, h2.2.2.1.trans h.2.2.1, h2.2.2.2.1.trans h.2.2.2.1, h2.2.2.2.2.1.trans h.2.2.2.2.1, h2.2.2.2.2.2.1.trans h.2.2.2.2.2.1, h2.2.2.2.2.2.2.1.trans h.2.2.2.2.2.2.1, h2.2.2.2.2.2.2.2.trans h.2.2.2.2.2.2.2⟩
theorem tkR_tr (h : tkR u x) (h2 : tkR x y) : tkR u y := ⟨h2.1.trans h.1, h2.2.1.trans h.2.1, h2.2.2.1.trans h.2.2.1, h2.2.2.2.1.trans h.2.2.2.1, h2.2.2.2.2.1.trans h.2.2.2.2.1, h2.2.2.2.2.2.1.trans h.2.2.2.2.2.1, h2.2.2.2.2.2.2.trans h.2.2.2.2.2.2⟩
theorem EV1.tr (h : EV1 v u n) (hc : tkC v w) (hr : tkR u x) : EV1 w x n := by
  obtain ⟨a1, a2, a3, a4, a5, a6, a7⟩ := h
  obtain ⟨c1, c2, c3, c4, c5, c6, c7, c8⟩ := hc
  obtain ⟨r1, r2, r3, r4, r5, r6, r7⟩ := hr
  have t : tyF w = tyF v := c2
  refine ⟨?_, ?_, ?_, ?_, ?_, ?_, by rw [c8]; exact a7⟩
  · unfold TB
    rw [c1, t]
    exact a1
  · rw [t, r1]
    exact a2
  · intro i hi
    rw [c2, c3, c4, c5, r1, r2, r3, r4, r5, r6]
    exact a3 i hi
  · rw [c3, r2]
    exact a4
  · rw [r7]
    exact a5
  · rw [c6, c7]
    exact a6
theorem tkC_ty (h : tkC v w) : tyF w = tyF v := h.2.1
end Frm
/-! names that stay: all but the new one, T -/
def CNa (v w : CSt) (q y : Nat) : Prop := (∀ k, k ≠ 13 → mI w (169 * q + y) k = mI v (169 * q + y) k) ∧ (∀ k, mL w (169 * q + y) k = mL v (169 * q + y) k)
/-- what of a name stays also if it is the open routine's -/
def CNx (v w : CSt) (q T : Nat) : Prop := ∀ y, ¬ y = T → (∀ k, k ∉ [7, 11, 12, 13] → mI w (169 * q + y) k = mI v (169 * q + y) k) ∧ (∀ k, mL w (169 * q + y) k = mL v (169 * q + y) k)
def RGx (u x : RSt) (G : Nat) : Prop := ∀ y, y < G → x.2.2.2 57 y = u.2.2.2 57 y ∧ x.2.2.2 58 y = u.2.2.2 58 y ∧ x.2.2.1 59 y = u.2.2.1 59 y ∧ x.2.2.1 60 y = u.2.2.1 60 y
def RVx (u x : RSt) (s : Nat) : Prop := (u.2.2.1 19 s).toInt ≤ (x.2.2.1 19 s).toInt ∧ ∀ k : Nat, (k : Int) < (u.2.2.1 19 s).toInt → (∀ c, c ∈ [10, 11, 12, 13, 14, 15] → x.2.2.1 c (160 * s + k) = u.2.2.1 c (160 * s + k)) ∧ (∀ c, c ∈ [16, 17, 18] → x.2.2.2 c (160 * s + k) = u.2.2.2 c (160 * s + k))
def RSx (u x : RSt) (s : Nat) : Prop := (u.2.2.1 27 s).toInt ≤ (x.2.2.1 27 s).toInt ∧ (x.2.2.1 27 s).toInt ≤ 160 ∧ ∀ k : Nat, (k : Int) < (u.2.2.1 27 s).toInt → (∀ c, c ∈ [20, 21, 22, 23] → x.2.2.1 c (160 * s + k) = u.2.2.1 c (160 * s + k)) ∧ (∀ c, c ∈ [24, 25, 26] → x.2.2.2 c (160 * s + k) = u.2.2.2 c (160 * s + k))
def RBx (u x : RSt) (s : Nat) : Prop := (u.2.2.1 36 s).toInt ≤ (x.2.2.1 36 s).toInt ∧ (u.2.2.1 37 s).toInt ≤ (x.2.2.1 37 s).toInt ∧ (∀ k : Nat, (k : Int) < (u.2.2.1 36 s).toInt → ∀ c, c ∈ [28, 29, 30, 31, 33] → x.2.2.1 c (24 * s + k) = u.2.2.1 c (24 * s + k)) ∧ (∀ k : Nat, (k : Int) < (u.2.2.1 37 s).toInt → ∀ c, c ∈ [28, 29, 30, 31, 33] → x.2.2.1 c (24 * s + 8 + k) = u.2.2.1 c (24 * s + 8 + k))
def RIx (u x : RSt) (s : Nat) : Prop := (u.2.2.1 42 s).toInt ≤ (x.2.2.1 42 s).toInt ∧ ∀ k : Nat, (k : Int) < (u.2.2.1 42 s).toInt → (∀ c, c ∈ [38, 39] → x.2.2.1 c (24 * s + k) = u.2.2.1 c (24 * s + k)) ∧ (∀ c, c ∈ [40, 41] → x.2.2.2 c (24 * s + k) = u.2.2.2 c (24 * s + k))
def TRv1 (v : CSt) (u : RSt) (q s x : Nat) : Prop := ∃ k : Nat, (mI v (169 * q + x) 4).toInt = k ∧ k < 160 ∧ u.2.2.1 10 (160 * s + k) = mI v (169 * q + x) 5 ∧ u.2.2.1 11 (160 * s + k) = mI v (169 * q + x) 7 ∧ u.2.2.1 12 (160 * s + k) = mI v (169 * q + x) 6 ∧ u.2.2.1 13 (160 * s + k) = mI v (169 * q + x) 8 ∧ u.2.2.2 16 (160 * s + k) = mL v (169 * q + x) 10 ∧ rN v u (169 * q + x) 17 18 (160 * s + k) ∧ KD (mI v (169 * q + x) 5) ∧ B01 (mI v (169 * q + x) 8) ∧ (k : Int) < (u.2.2.1 19 s).toInt
def TRr1 (v : CSt) (u : RSt) (q s T r : Nat) : Prop := ∃ K F P, RRr v u q s T r K F P ∧ (mI v (169 * q + r) 2 = 3 → (mI v (169 * q + r) 4).toInt < (u.2.2.1 36 s).toInt) ∧ (mI v (169 * q + r) 2 = 4 → (mI v (169 * q + r) 4).toInt < (u.2.2.1 37 s).toInt)
def TRi1 (v : CSt) (u : RSt) (q s T x : Nat) : Prop := ∃ k r : Nat, (mI v (169 * q + x) 4).toInt = k ∧ k < 24 ∧ r < T ∧ (mI v (169 * q + x) 14).toInt = r ∧ mI v (169 * q + r) 2 = 3 ∧ (u.2.2.1 38 (24 * s + k)).toInt = (bk v (169 * q + r) s : Nat) ∧ u.2.2.1 39 (24 * s + k) = mI v (169 * q + x) 9 ∧ rN v u (169 * q + x) 40 41 (24 * s + k) ∧ (k : Int) < (u.2.2.1 42 s).toInt
section Grw
variable {v w : CSt} {u x : RSt} {q s T G r K F P : Nat}
theorem CNx_a (h : ∀ y, ¬ y = T → CNa v w q y) : CNx v w q T := fun y e => ⟨fun k hk => (h y e).1 k (fun z => hk (by rw [z]; decide)), (h y e).2⟩
theorem gl_c (hc : CNx v w q T) {y : Nat} (e : ¬ y = T) : gl w (169 * q + y) ↔ gl v (169 * q + y) := by
  unfold gl
  rw [(hc y e).1 2 (by decide)]
theorem TRx_new (h : TRx v q T) (hc : CNx v w q T) (h3 : (mI w (169 * q + T) 3).toInt = T) (h2 : 0 ≤ (mI w (169 * q + T) 2).toInt ∧ (mI w (169 * q + T) 2).toInt ≤ 6) : TRx w q (T + 1) := by
  intro y hy
  by_cases e : y = T
  · subst e
    exact ⟨h3, h2.1, h2.2⟩
  · rw [(hc y e).1 3 (by decide), (hc y e).1 2 (by decide)]
    exact h y (by omega)
theorem TRn_new (h : TRn v q T) (hc : CNx v w q T) (h4 : gl w (169 * q + T) → 0 ≤ (mI w (169 * q + T) 4).toInt) : TRn w q (T + 1) := by
  intro y hy hg
  by_cases e : y = T
  · subst e
    exact h4 hg
  · rw [(hc y e).1 4 (by decide)]
    exact h y (by omega) ((gl_c hc e).mp hg)
theorem gE_c {m y : Nat} (h0 : mL w m 0 = mL v m 0) (h1 : mI w m 1 = mI v m 1) (h2 : mI w m 2 = mI v m 2) (h4 : mI w m 4 = mI v m 4) (hr : RGx u x G) (hy : y < G) : gE w x m y ↔ gE v u m y := by
  unfold gE rN
  obtain ⟨a1, a2, a3, a4⟩ := hr y hy
  rw [h0, h1, h2, h4, a1, a2, a3, a4]
theorem gE_x {y z : Nat} (hc : CNx v w q T) (e : ¬ z = T) (hr : RGx u x G) (hy : y < G) : gE w x (169 * q + z) y ↔ gE v u (169 * q + z) y := gE_c ((hc z e).2 0) ((hc z e).1 1 (by decide)) ((hc z e).1 2 (by decide)) ((hc z e).1 4 (by decide)) hr hy
theorem TRg_new (h : TRg v u q T G) (hc : CNx v w q T) (hr : RGx u x G) (hT : T < 160) (h8 : 8 ≤ G) (hg : gl w (169 * q + T)) (hE : gE w x (169 * q + T) G) (hf : ∀ y, y < T → gl v (169 * q + y) → ¬ (mL v (169 * q + y) 0 = mL w (169 * q + T) 0 ∧ mI v (169 * q + y) 1 = mI w (169 * q + T) 1)) (hf8 : ∀ k, k < 8 → ¬ (mI w (169 * q + T) 1 = 0 ∧ mL w (169 * q + T) 0 = mL v (169 * q + (160 + k)) 0)) : TRg w x q (T + 1) (G + 1) := by
  obtain ⟨g1, g2, g3, g4⟩ := h
  refine ⟨fun y hy hgy => ?_, fun y hy1 hy2 => ?_, fun y y' hy hy' hgy hgy' e1 e2 => ?_, fun y hy hgy k hk => ?_⟩
  · by_cases e : y = T
    · subst e
      exact ⟨G, h8, by omega, hE⟩
    · obtain ⟨z, z1, z2, z3⟩ := g1 y (by omega) ((gl_c hc e).mp hgy)
      exact ⟨z, z1, by omega, (gE_x hc e hr z2).mpr z3⟩
  · by_cases e : y = G
    · subst e
      exact ⟨T, by omega, hg, hE⟩
    · obtain ⟨z, z1, z2, z3⟩ := g2 y hy1 (by omega)
      have ez : ¬ z = T := by omega
      exact ⟨z, by omega, (gl_c hc ez).mpr z2, (gE_x hc ez hr (by omega)).mpr z3⟩
  · by_cases e : y = T
    · by_cases e' : y' = T
      · rw [e, e']
      · exfalso
        rw [e] at e1 e2
        rw [(hc y' e').2 0] at e1
        rw [(hc y' e').1 1 (by decide)] at e2
        exact hf y' (by omega) ((gl_c hc e').mp hgy') ⟨e1.symm, e2.symm⟩
    · by_cases e' : y' = T
      · exfalso
        rw [e'] at e1 e2
        rw [(hc y e).2 0] at e1
        rw [(hc y e).1 1 (by decide)] at e2
        exact hf y (by omega) ((gl_c hc e).mp hgy) ⟨e1, e2⟩
      · rw [(hc y e).2 0, (hc y' e').2 0] at e1
        rw [(hc y e).1 1 (by decide), (hc y' e').1 1 (by decide)] at e2
        exact g3 y y' (by omega) (by omega) ((gl_c hc e).mp hgy) ((gl_c hc e').mp hgy') e1 e2
  · have ek : ¬ 160 + k = T := by omega
    rw [(hc (160 + k) ek).2 0]
    by_cases e : y = T
    · rw [e]
      exact hf8 k hk
    · rw [(hc y e).2 0, (hc y e).1 1 (by decide)]
      exact g4 y (by omega) ((gl_c hc e).mp hgy) k hk
theorem TRg_loc (h : TRg v u q T G) (hc : CNx v w q T) (hr : RGx u x G) (hT : T < 160) (hg : ¬ gl w (169 * q + T)) : TRg w x q (T + 1) G := by
  obtain ⟨g1, g2, g3, g4⟩ := h
  have ne : ∀ y, y < T + 1 → gl w (169 * q + y) → ¬ y = T := fun y _ h1 e => hg (by rw [← e]; exact h1)
  refine ⟨fun y hy hgy => ?_, fun y hy1 hy2 => ?_, fun y y' hy hy' hgy hgy' e1 e2 => ?_, fun y hy hgy k hk => ?_⟩
  · have e := ne y hy hgy
    obtain ⟨z, z1, z2, z3⟩ := g1 y (by omega) ((gl_c hc e).mp hgy)
    exact ⟨z, z1, z2, (gE_x hc e hr z2).mpr z3⟩
  · obtain ⟨z, z1, z2, z3⟩ := g2 y hy1 hy2
    have ez : ¬ z = T := by omega
    exact ⟨z, by omega, (gl_c hc ez).mpr z2, (gE_x hc ez hr hy2).mpr z3⟩
  · have e := ne y hy hgy
    have e' := ne y' hy' hgy'
    rw [(hc y e).2 0, (hc y' e').2 0] at e1
    rw [(hc y e).1 1 (by decide), (hc y' e').1 1 (by decide)] at e2
    exact g3 y y' (by omega) (by omega) ((gl_c hc e).mp hgy) ((gl_c hc e').mp hgy') e1 e2
  · have e := ne y hy hgy
    have ek : ¬ 160 + k = T := by omega
    rw [(hc (160 + k) ek).2 0, (hc y e).2 0, (hc y e).1 1 (by decide)]
    exact g4 y (by omega) ((gl_c hc e).mp hgy) k hk
theorem TR8_new (h : TR8 v u q) (hf : ∀ y, 160 ≤ y → CNa v w q y) (hr : RGx u x G) (h8 : 8 ≤ G) : TR8 w x q := by
  obtain ⟨f1, f2, f3, f4, f5, f6⟩ := h
  have n0 := (hf 168 (by omega)).1
  refine ⟨?_, ?_, ?_, ?_, fun k hk => ?_, fun k k' hk hk' e => ?_⟩
  · rw [n0 2 (by decide)]; exact f1
  · rw [n0 12 (by decide)]; exact f2
  · rw [n0 3 (by decide)]; exact f3
  · rw [n0 3 (by decide)]; exact f4
  · obtain ⟨b1, b2, b3, b4, b5⟩ := f5 k hk
    obtain ⟨m1, m2⟩ := hf (160 + k) (by omega)
    obtain ⟨a1, a2, a3, a4⟩ := hr k (by omega)
    refine ⟨?_, ?_, ?_, ?_, ?_⟩
    · rw [m1 2 (by decide)]; exact b1
    · rw [m2 0, a1, a2]; exact b2
    · rw [a3]; exact b3
    · rw [a4]; exact b4
    · unfold EI at b5 ⊢
      rw [m1 11 (by decide), m1 4 (by decide)]
      exact b5
  · rw [(hf (160 + k) (by omega)).2 0, (hf (160 + k') (by omega)).2 0] at e
    exact f6 k k' hk hk' e
theorem TRv1_c {y : Nat} (hn : CNa v w q y) (hr : RVx u x s) (h : TRv1 v u q s y) : TRv1 w x q s y := by
  obtain ⟨k, k1, k2, k3, k4, k5, k6, k7, k8, k9, k10, k11⟩ := h
  obtain ⟨m1, m2⟩ := hn
  obtain ⟨r1, r2⟩ := hr
  obtain ⟨t1, t2⟩ := r2 k k11
  refine ⟨k, ?_, k2, ?_, ?_, ?_, ?_, ?_, ?_, ?_, ?_, by omega⟩
  · rw [m1 4 (by decide)]; exact k1
  · rw [t1 10 (by decide), m1 5 (by decide)]; exact k3
  · rw [t1 11 (by decide), m1 7 (by decide)]; exact k4
  · rw [t1 12 (by decide), m1 6 (by decide)]; exact k5
  · rw [t1 13 (by decide), m1 8 (by decide)]; exact k6
  · rw [t2 16 (by decide), m2 10]; exact k7
  · unfold rN at k8 ⊢
    rw [t2 17 (by decide), t2 18 (by decide), m2 0, m1 1 (by decide)]
    exact k8
  · rw [m1 5 (by decide)]; exact k9
  · rw [m1 8 (by decide)]; exact k10
theorem TRv_new (h : TRv v u q s T) (hc : CNx v w q T) (hf : ∀ y, y < T → mI v (169 * q + y) 2 = 0 → CNa v w q y) (hr : RVx u x s) (hn : mI w (169 * q + T) 2 = 0 → TRv1 w x q s T) : TRv w x q s (T + 1) := by
  intro y hy hs
  by_cases e : y = T
  · subst e
    exact hn hs
  · rw [(hc y e).1 2 (by decide)] at hs
    exact TRv1_c (hf y (by omega) hs) hr (h y (by omega) hs)
theorem RRr_tr {T' : Nat} (h : RRr v u q s T r K F P) (hN : ∀ y, r ≤ y → y ≤ r + K → CNa v w q y) (hB : ∀ c, c ∈ [28, 29, 30, 31, 33] → x.2.2.1 c (bk v (169 * q + r) s) = u.2.2.1 c (bk v (169 * q + r) s)) (hS : RSx u x s) (hT : T ≤ T') : RRr w x q s T' r K F P := by
  obtain ⟨a1, a2, a3, a4, a5, a6, a7, a8, a9, a10, a11, a12, a13, a14, a15, a16, a17⟩ := h
  have n0 := (hN r (Nat.le_refl _) (by omega)).1
  have eb : bk w (169 * q + r) s = bk v (169 * q + r) s := by
    unfold bk
    rw [n0 2 (by decide), n0 4 (by decide)]
  obtain ⟨s1, s2, s3⟩ := hS
  refine ⟨?_, ?_, ?_, ?_, by omega, ?_, ?_, by omega, s2, ?_, ?_, a12, a13, ?_, ?_, fun j hj => ?_, fun j j' hj hj' e1 e2 => ?_⟩
  · rw [n0 4 (by decide)]; exact a1
  · rw [n0 4 (by decide)]; exact a2
  · rw [n0 2 (by decide), n0 4 (by decide)]; exact a3
  · rw [n0 12 (by decide)]; exact a4
  · rw [eb, hB 28 (by decide)]; exact a6
  · rw [eb, hB 29 (by decide)]; exact a7
  · rw [eb, hB 30 (by decide), n0 11 (by decide)]; exact a10
  · rw [n0 11 (by decide)]; exact a11
  · rw [eb, hB 31 (by decide), n0 7 (by decide)]; exact a14
  · rw [n0 2 (by decide), n0 5 (by decide), eb, hB 33 (by decide)]; exact a15
  · obtain ⟨m1, m2⟩ := hN (r + 1 + j) (by omega) (by omega)
    obtain ⟨b1, b2⟩ := a16 j hj
    obtain ⟨t1, t2⟩ := s3 (F + j) (by omega)
    refine ⟨by rw [m1 2 (by decide)]; exact b1, ?_⟩
    unfold sE rN at b2 ⊢
    rw [t1 20 (by decide), t1 21 (by decide), t1 22 (by decide), t1 23 (by decide), t2 24 (by decide), t2 25 (by decide), t2 26 (by decide), m1 5 (by decide), m1 7 (by decide), m1 8 (by decide), m1 9 (by decide), m2 10, m2 0, m1 1 (by decide)]
    exact b2
  · obtain ⟨m1, m2⟩ := hN (r + 1 + j) (by omega) (by omega)
    obtain ⟨m1', m2'⟩ := hN (r + 1 + j') (by omega) (by omega)
    rw [m2 0, m2' 0] at e1
    rw [m1 1 (by decide), m1' 1 (by decide)] at e2
    exact a17 j j' hj hj' e1 e2
theorem bk_3 {m : Nat} (h : mI v m 2 = 3) : bk v m s = 24 * s + (mI v m 4).toNatClampNeg := by
  unfold bk
  rw [if_pos h]
theorem bk_4 {m : Nat} (h : mI v m 2 = 4) : bk v m s = 24 * s + 8 + (mI v m 4).toNatClampNeg := by
  unfold bk
  rw [if_neg (by rw [h]; decide)]
theorem TRr_new (h : TRr v u q s T) (hc : ∀ y, ¬ y = T → CNa v w q y) (hB : RBx u x s) (hS : RSx u x s) (hn : (mI w (169 * q + T) 2 = 3 ∨ mI w (169 * q + T) 2 = 4) → TRr1 w x q s (T + 1) T) : TRr w x q s (T + 1) := by
  intro r hr hs
  by_cases e : r = T
  · subst e
    exact hn hs
  · have n0 := (hc r e).1
    rw [n0 2 (by decide)] at hs
    obtain ⟨K, F, P, hR, b3, b4⟩ := h r (by omega) hs
    have a1 := hR.1
    have a5 := hR.2.2.2.2.1
    have en : ((mI v (169 * q + r) 4).toNatClampNeg : Int) = (mI v (169 * q + r) 4).toInt := by
      show ((mI v (169 * q + r) 4).toInt.toNat : Int) = _
      omega
    refine ⟨K, F, P, RRr_tr hR (fun y h1 h2 => hc y (by omega)) (fun c hcc => ?_) hS (by omega), fun z => ?_, fun z => ?_⟩
    · rcases hs with z | z
      · rw [bk_3 z]
        exact hB.2.2.1 _ (by rw [en]; exact b3 z) c hcc
      · rw [bk_4 z]
        exact hB.2.2.2 _ (by rw [en]; exact b4 z) c hcc
    · rw [n0 2 (by decide)] at z
      rw [n0 4 (by decide)]
      have := b3 z
      have := hB.1
      omega
    · rw [n0 2 (by decide)] at z
      rw [n0 4 (by decide)]
      have := b4 z
      have := hB.2.1
      omega
theorem TRi_new (h : TRi v u q s T) (hc : CNx v w q T) (hr : RIx u x s) (hn : mI w (169 * q + T) 2 = 1 → TRi1 w x q s (T + 1) T) : TRi w x q s (T + 1) := by
  intro y hy hs
  by_cases e : y = T
  · subst e
    exact hn hs
  · rw [(hc y e).1 2 (by decide)] at hs
    obtain ⟨k, r, k1, k2, k3, k4, k5, k6, k7, k8, k9⟩ := h y (by omega) hs
    have er : ¬ r = T := by omega
    obtain ⟨t1, t2⟩ := hr.2 k k9
    refine ⟨k, r, ?_, k2, by omega, ?_, ?_, ?_, ?_, ?_, by have := hr.1; omega⟩
    · rw [(hc y e).1 4 (by decide)]; exact k1
    · rw [(hc y e).1 14 (by decide)]; exact k4
    · rw [(hc r er).1 2 (by decide)]; exact k5
    · have eb : bk w (169 * q + r) s = bk v (169 * q + r) s := by
        unfold bk
        rw [(hc r er).1 2 (by decide), (hc r er).1 4 (by decide)]
      rw [eb, t1 38 (by decide)]
      exact k6
    · rw [t1 39 (by decide), (hc y e).1 9 (by decide)]; exact k7
    · unfold rN at k8 ⊢
      rw [t2 40 (by decide), t2 41 (by decide), (hc y e).2 0, (hc y e).1 1 (by decide)]
      exact k8
/-- a global name more -/
theorem TR_new (h : TR v u q s T G) (hT : T < 160) (hc : ∀ y, ¬ y = T → CNa v w q y) (h12 : (pI w q 12).toInt = (T + 1 : Nat)) (h62 : x.1 62 = pI w q 12) (h61 : (x.1 61).toInt = (G + 1 : Nat)) (h56 : x.1 56 = u.1 56) (hR2 : cR w 2 = cR v 2) (hR3 : cR w 3 = cR v 3) (h3 : (mI w (169 * q + T) 3).toInt = T) (h2 : 0 ≤ (mI w (169 * q + T) 2).toInt) (hg : gl w (169 * q + T)) (h4 : 0 ≤ (mI w (169 * q + T) 4).toInt) (hE : gE w x (169 * q + T) G) (hf : ∀ y, y < T → gl v (169 * q + y) → ¬ (mL v (169 * q + y) 0 = mL w (169 * q + T) 0 ∧ mI v (169 * q + y) 1 = mI w (169 * q + T) 1)) (hf8 : ∀ k, k < 8 → ¬ (mI w (169 * q + T) 1 = 0 ∧ mL w (169 * q + T) 0 = mL v (169 * q + (160 + k)) 0)) (hrG : RGx u x G) (hrV : RVx u x s) (hrS : RSx u x s) (hrB : RBx u x s) (hrI : RIx u x s) (hnV : mI w (169 * q + T) 2 = 0 → TRv1 w x q s T) (hnR : (mI w (169 * q + T) 2 = 3 ∨ mI w (169 * q + T) 2 = 4) → TRr1 w x q s (T + 1) T) (hnI : mI w (169 * q + T) 2 = 1 → TRi1 w x q s (T + 1) T) : TR w x q s (T + 1) (G + 1) := by
  obtain ⟨t1, t2, t3, t4, t5, t5', t6, t7, t8, t9, t10, t11, t12, t13, t14, t15, t16, t17⟩ := h
  have e4 : (4 : Int32).toInt = 4 := by decide
  have hx := CNx_a hc
  have h6 : (mI w (169 * q + T) 2).toInt ≤ 6 := by
    have : ¬ (4 : Int32).toInt < (mI w (169 * q + T) 2).toInt := fun z => hg (Int32.lt_iff_toInt_lt.mpr z)
    omega
  exact ⟨h12, by omega, h62, h61, by omega, by omega, by rw [h56]; exact t6, t7, t8, by rw [hR2]; exact t9, by rw [hR3]; exact t10, TRx_new t11 hx h3 ⟨h2, h6⟩, TRn_new t12 hx (fun _ => h4), TRg_new t13 hx hrG hT t5' hg hE hf hf8, TR8_new t14 (fun y hy => hc y (by omega)) hrG t5', TRv_new t15 hx (fun y hy _ => hc y (by omega)) hrV hnV, TRr_new t16 hc hrB hrS hnR, TRi_new t17 hx hrI hnI⟩
end Grw
