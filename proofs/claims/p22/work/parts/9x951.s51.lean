/-! The second pass: Items. More of the tables: numbers by sort, places, counts; what stays as it is. -/
def TRs (v : CSt) (q T : Nat) : Prop := (∀ y, y < T → gl v (169 * q + y) → (mI v (169 * q + y) 4).toInt < (pA v q 9 (mI v (169 * q + y) 2).toNatClampNeg).toInt ∧ (pA v q (4 + (mI v (169 * q + y) 2).toNatClampNeg) (mI v (169 * q + y) 4).toNatClampNeg).toInt = y) ∧ (∀ so, so ≤ 4 → ∀ k : Nat, (k : Int) < (pA v q 9 so).toInt → ∃ y : Nat, y < T ∧ (pA v q (4 + so) k).toInt = y ∧ (mI v (169 * q + y) 2).toInt = so ∧ (mI v (169 * q + y) 4).toInt = k)
/-- where a variable is -/
def TRp1 (v : CSt) (u : RSt) (q s y : Nat) : Prop := 1 ≤ (mI v (169 * q + y) 7).toInt ∧ (mI v (169 * q + y) 7).toInt ≤ 200 ∧ (((mI v (169 * q + y) 6 = 0 ∨ mI v (169 * q + y) 6 = 1) ∧ u.2.2.1 14 (160 * s + (mI v (169 * q + y) 4).toNatClampNeg) = -1 ∧ u.2.2.1 15 (160 * s + (mI v (169 * q + y) 4).toNatClampNeg) = mI v (169 * q + y) 9 ∧ 0 ≤ (mI v (169 * q + y) 9).toInt ∧ (mI v (169 * q + y) 9).toInt + (mI v (169 * q + y) 7).toInt ≤ (cI v 12).toInt) ∨ ((mI v (169 * q + y) 6 = 2 ∨ mI v (169 * q + y) 6 = 3) ∧ mI v (169 * q + y) 7 = 1 ∧ mI v (169 * q + y) 8 = 0 ∧ u.2.2.1 14 (160 * s + (mI v (169 * q + y) 4).toNatClampNeg) = mI v (169 * q + y) 9 ∧ u.2.2.1 15 (160 * s + (mI v (169 * q + y) 4).toNatClampNeg) = (if mI v (169 * q + y) 6 = 2 then 6000 else 5000) + mI v (169 * q + y) 9 ∧ 0 ≤ (mI v (169 * q + y) 9).toInt ∧ (mI v (169 * q + y) 9).toInt ≤ (64 - r_bits (mI v (169 * q + y) 5) / 8).toInt))
def TRp (v : CSt) (u : RSt) (q s T : Nat) : Prop := ∀ y, y < T → mI v (169 * q + y) 2 = 0 → TRp1 v u q s y
/-- names of tasks, blocks, functions -/
def TRf1 (v : CSt) (u : RSt) (q s y : Nat) : Prop := (mI v (169 * q + y) 2 = 2 → (mI v (169 * q + y) 4).toInt < (u.2.2.1 48 s).toInt ∧ rN v u (169 * q + y) 46 47 (8 * s + (mI v (169 * q + y) 4).toNatClampNeg)) ∧ (mI v (169 * q + y) 2 = 3 → (mI v (169 * q + y) 4).toInt < (u.2.2.1 36 s).toInt ∧ rN v u (169 * q + y) 34 35 (24 * s + (mI v (169 * q + y) 4).toNatClampNeg)) ∧ (mI v (169 * q + y) 2 = 4 → (mI v (169 * q + y) 4).toInt < (u.2.2.1 37 s).toInt ∧ rN v u (169 * q + y) 34 35 (24 * s + 8 + (mI v (169 * q + y) 4).toNatClampNeg))
def TRf (v : CSt) (u : RSt) (q s T : Nat) : Prop := ∀ y, y < T → TRf1 v u q s y
/-- tasks -/
def TRk1 (v : CSt) (u : RSt) (q s k : Nat) : Prop := tI v (8 * q + k) 0 = u.2.2.1 43 (8 * s + k) ∧ tI v (8 * q + k) 1 = u.2.2.1 44 (8 * s + k) ∧ 1 ≤ (tI v (8 * q + k) 0).toInt ∧ (tI v (8 * q + k) 0).toInt ≤ 1000 ∧ 0 ≤ (tI v (8 * q + k) 1).toInt ∧ (tI v (8 * q + k) 1).toInt < (tI v (8 * q + k) 0).toInt ∧ (∀ j, j ∈ [3, 4, 5, 6, 7, 8, 9] → tI v (8 * q + k) j = 0)
def TRk (v : CSt) (u : RSt) (q s : Nat) : Prop := ∀ k : Nat, (k : Int) < (u.2.2.1 48 s).toInt → TRk1 v u q s k
def CTN (v : CSt) (u : RSt) (q s T : Nat) : Prop := pA v q 9 0 = u.2.2.1 19 s ∧ pA v q 9 1 = u.2.2.1 42 s ∧ pA v q 9 2 = u.2.2.1 48 s ∧ pA v q 9 3 = u.2.2.1 36 s ∧ pA v q 9 4 = u.2.2.1 37 s ∧ (0 ≤ (u.2.2.1 19 s).toInt ∧ (u.2.2.1 19 s).toInt ≤ T) ∧ (0 ≤ (u.2.2.1 42 s).toInt ∧ (u.2.2.1 42 s).toInt ≤ 24) ∧ (0 ≤ (u.2.2.1 48 s).toInt ∧ (u.2.2.1 48 s).toInt ≤ 8) ∧ (0 ≤ (u.2.2.1 36 s).toInt ∧ (u.2.2.1 36 s).toInt ≤ 8) ∧ (0 ≤ (u.2.2.1 37 s).toInt ∧ (u.2.2.1 37 s).toInt ≤ 16) ∧ (0 ≤ (u.2.2.1 27 s).toInt ∧ (u.2.2.1 27 s).toInt ≤ T)
def NUM (v : CSt) (u : RSt) : Prop := (∀ k, k < 5 → cA v 228 k = u.2.2.1 64 k ∧ 0 ≤ (cA v 228 k).toInt ∧ (cA v 228 k).toInt ≤ 400) ∧ cI v 12 = u.1 63 ∧ (cI v 12).toInt = (cA v 228 0).toInt + (cA v 228 1).toInt + (cA v 228 2).toInt + (cA v 228 3).toInt + (cA v 228 4).toInt
/-- the places of a routine's parameters and locals follow each other -/
def OFF (v : CSt) (q r K : Nat) : Prop := ∃ f : Nat → Int, f 0 = 0 ∧ f K = (mI v (169 * q + r) 7).toInt ∧ f K ≤ 100 ∧ ∀ j, j < K → (mI v (169 * q + (r + 1 + j)) 9).toInt = f j ∧ f (j + 1) = f j + (mI v (169 * q + (r + 1 + j)) 7).toInt ∧ 1 ≤ (mI v (169 * q + (r + 1 + j)) 7).toInt ∧ (mI v (169 * q + (r + 1 + j)) 7).toInt ≤ 200
def TRo (v : CSt) (q T : Nat) : Prop := ∀ r, r < T → (mI v (169 * q + r) 2 = 3 ∨ mI v (169 * q + r) 2 = 4) → ∀ K : Nat, (mI v (169 * q + r) 12).toInt = K → OFF v q r K
def TR2 (v : CSt) (u : RSt) (q s T : Nat) : Prop := TRs v q T ∧ CTN v u q s T ∧ NUM v u ∧ TRp v u q s T ∧ TRf v u q s T ∧ TRk v u q s ∧ TRo v q T
def RKx (u x : RSt) (s : Nat) : Prop := (u.2.2.1 48 s).toInt ≤ (x.2.2.1 48 s).toInt ∧ ∀ k : Nat, (k : Int) < (u.2.2.1 48 s).toInt → (∀ c, c ∈ [43, 44] → x.2.2.1 c (8 * s + k) = u.2.2.1 c (8 * s + k)) ∧ (∀ c, c ∈ [46, 47] → x.2.2.2 c (8 * s + k) = u.2.2.2 c (8 * s + k))
def RNx (u x : RSt) (s : Nat) : Prop := (u.2.2.1 36 s).toInt ≤ (x.2.2.1 36 s).toInt ∧ (u.2.2.1 37 s).toInt ≤ (x.2.2.1 37 s).toInt ∧ (∀ k : Nat, (k : Int) < (u.2.2.1 36 s).toInt → ∀ c, c ∈ [34, 35] → x.2.2.2 c (24 * s + k) = u.2.2.2 c (24 * s + k)) ∧ (∀ k : Nat, (k : Int) < (u.2.2.1 37 s).toInt → ∀ c, c ∈ [34, 35] → x.2.2.2 c (24 * s + 8 + k) = u.2.2.2 c (24 * s + 8 + k))
section Fx
variable {a b c : List Nat} {u x : RSt} {s G : Nat}
theorem FX_r (h : rfr u x) : FX [65, 66, 67, 68, 74, 78, 80, 81] [49, 50, 51, 54, 75, 76] [52, 53] u x := h
theorem RGx_f (h : FX a b c u x) (hb : ∀ k, k ∈ [59, 60] → k ∉ b) (hc : ∀ k, k ∈ [57, 58] → k ∉ c) : RGx u x G := fun y _ => ⟨by rw [h.2.2 57 (hc 57 (by decide))], by rw [h.2.2 58 (hc 58 (by decide))], by rw [h.2.1 59 (hb 59 (by decide))], by rw [h.2.1 60 (hb 60 (by decide))]⟩
theorem RVx_f (h : FX a b c u x) (hb : ∀ k, k ∈ [10, 11, 12, 13, 14, 15, 19] → k ∉ b) (hc : ∀ k, k ∈ [16, 17, 18] → k ∉ c) : RVx u x s := ⟨by rw [h.2.1 19 (hb 19 (by decide))]; exact Int.le_refl _, fun k _ => ⟨fun d hd => by rw [h.2.1 d (hb d (by simp only [List.mem_cons, List.not_mem_nil, or_false] at hd ⊢; omega))], fun d hd => by rw [h.2.2 d (hc d hd)]⟩⟩
theorem RSx_f (h : FX a b c u x) (hb : ∀ k, k ∈ [20, 21, 22, 23, 27] → k ∉ b) (hc : ∀ k, k ∈ [24, 25, 26] → k ∉ c) (h1 : (u.2.2.1 27 s).toInt ≤ 160) : RSx u x s := ⟨by rw [h.2.1 27 (hb 27 (by decide))]; exact Int.le_refl _, by rw [h.2.1 27 (hb 27 (by decide))]; exact h1, fun k _ => ⟨fun d hd => by rw [h.2.1 d (hb d (by simp only [List.mem_cons, List.not_mem_nil, or_false] at hd ⊢; omega))], fun d hd => by rw [h.2.2 d (hc d hd)]⟩⟩
theorem RBx_f (h : FX a b c u x) (hb : ∀ k, k ∈ [28, 29, 30, 31, 33, 36, 37] → k ∉ b) : RBx u x s := ⟨by rw [h.2.1 36 (hb 36 (by decide))]; exact Int.le_refl _, by rw [h.2.1 37 (hb 37 (by decide))]; exact Int.le_refl _, fun k _ d hd => by rw [h.2.1 d (hb d (by simp only [List.mem_cons, List.not_mem_nil, or_false] at hd ⊢; omega))], fun k _ d hd => by rw [h.2.1 d (hb d (by simp only [List.mem_cons, List.not_mem_nil, or_false] at hd ⊢; omega))]⟩
theorem RIx_f (h : FX a b c u x) (hb : ∀ k, k ∈ [38, 39, 42] → k ∉ b) (hc : ∀ k, k ∈ [40, 41] → k ∉ c) : RIx u x s := ⟨by rw [h.2.1 42 (hb 42 (by decide))]; exact Int.le_refl _, fun k _ => ⟨fun d hd => by rw [h.2.1 d (hb d (by simp only [List.mem_cons, List.not_mem_nil, or_false] at hd ⊢; omega))], fun d hd => by rw [h.2.2 d (hc d hd)]⟩⟩
theorem RKx_f (h : FX a b c u x) (hb : ∀ k, k ∈ [43, 44, 48] → k ∉ b) (hc : ∀ k, k ∈ [46, 47] → k ∉ c) : RKx u x s := ⟨by rw [h.2.1 48 (hb 48 (by decide))]; exact Int.le_refl _, fun k _ => ⟨fun d hd => by rw [h.2.1 d (hb d (by simp only [List.mem_cons, List.not_mem_nil, or_false] at hd ⊢; omega))], fun d hd => by rw [h.2.2 d (hc d hd)]⟩⟩
theorem RNx_f (h : FX a b c u x) (hb : ∀ k, k ∈ [36, 37] → k ∉ b) (hc : ∀ k, k ∈ [34, 35] → k ∉ c) : RNx u x s := ⟨by rw [h.2.1 36 (hb 36 (by decide))]; exact Int.le_refl _, by rw [h.2.1 37 (hb 37 (by decide))]; exact Int.le_refl _, fun k _ d hd => by rw [h.2.2 d (hc d hd)], fun k _ d hd => by rw [h.2.2 d (hc d hd)]⟩
end Fx
section Grw2
variable {v w : CSt} {u x : RSt} {q s T G so k0 : Nat}
theorem nat4 {a : Int32} (h : 0 ≤ a.toInt) : (a.toNatClampNeg : Int) = a.toInt := by
  show (a.toInt.toNat : Int) = _
  omega
theorem TRs_new (h : TRs v q T) (hx : TRx v q T) (hn : TRn v q T) (hc : CNx v w q T) (ha : PAx v w q so k0 T) (hso : so ≤ 4) (h2 : (mI w (169 * q + T) 2).toInt = so) (h4 : (mI w (169 * q + T) 4).toInt = k0) : TRs w q (T + 1) := by
  have e4 : (4 : Int32).toInt = 4 := by decide
  obtain ⟨s1, s2⟩ := h
  obtain ⟨a1, a2, a3, a4, a5⟩ := ha
  refine ⟨fun y hy hg => ?_, fun p hp k hk => ?_⟩
  · by_cases e : y = T
    · rw [e, n_of h2, n_of h4]
      exact ⟨by rw [h4, a2]; omega, a4⟩
    · have hgv := (gl_c hc e).mp hg
      rw [(hc y e).1 2 (by decide), (hc y e).1 4 (by decide)]
      obtain ⟨b1, b2⟩ := s1 y (by omega) hgv
      obtain ⟨x1, x2, x3⟩ := hx y (by omega)
      have hp : (mI v (169 * q + y) 2).toNatClampNeg ≤ 4 := by
        have : ¬ (4 : Int32).toInt < (mI v (169 * q + y) 2).toInt := fun z => hgv (Int32.lt_iff_toInt_lt.mpr z)
        show (mI v (169 * q + y) 2).toInt.toNat ≤ 4
        omega
      have n4 := nat4 (hn y (by omega) hgv)
      generalize (mI v (169 * q + y) 2).toNatClampNeg = p at b1 b2 hp ⊢
      by_cases ep : p = so
      · rw [ep] at b1 b2 ⊢
        refine ⟨by rw [a2]; omega, ?_⟩
        rw [a5 so _ hso (fun z => by have := z.2; omega)]
        exact b2
      · refine ⟨by rw [a3 p hp ep]; exact b1, ?_⟩
        rw [a5 p _ hp (fun z => ep z.1)]
        exact b2
  · by_cases ep : p = so
    · by_cases ek : k = k0
      · rw [ep, ek]
        exact ⟨T, by omega, a4, h2, h4⟩
      · rw [ep] at hk ⊢
        obtain ⟨y, y1, y2, y3, y4⟩ := s2 so hso k (by omega)
        have e : ¬ y = T := by omega
        refine ⟨y, by omega, ?_, ?_, ?_⟩
        · rw [a5 so k hso (fun z => ek z.2)]; exact y2
        · rw [(hc y e).1 2 (by decide)]; exact y3
        · rw [(hc y e).1 4 (by decide)]; exact y4
    · rw [a3 p hp ep] at hk
      obtain ⟨y, y1, y2, y3, y4⟩ := s2 p hp k hk
      have e : ¬ y = T := by omega
      refine ⟨y, by omega, ?_, ?_, ?_⟩
      · rw [a5 p k hp (fun z => ep z.1)]; exact y2
      · rw [(hc y e).1 2 (by decide)]; exact y3
      · rw [(hc y e).1 4 (by decide)]; exact y4
theorem TRs_loc (h : TRs v q T) (hc : CNx v w q T) (ha : ∀ k, k ∉ [11, 12, 13, 14] → pA w q k = pA v q k) (hx : TRx v q T) (hg : ¬ gl w (169 * q + T)) : TRs w q (T + 1) := by
  have e4 : (4 : Int32).toInt = 4 := by decide
  obtain ⟨s1, s2⟩ := h
  refine ⟨fun y hy hgy => ?_, fun p hp k hk => ?_⟩
  · have e : ¬ y = T := fun z => hg (by rw [← z]; exact hgy)
    have hgv := (gl_c hc e).mp hgy
    rw [(hc y e).1 2 (by decide), (hc y e).1 4 (by decide)]
    obtain ⟨x1, x2, x3⟩ := hx y (by omega)
    have hp : (mI v (169 * q + y) 2).toNatClampNeg ≤ 4 := by
      have : ¬ (4 : Int32).toInt < (mI v (169 * q + y) 2).toInt := fun z => hgv (Int32.lt_iff_toInt_lt.mpr z)
      show (mI v (169 * q + y) 2).toInt.toNat ≤ 4
      omega
    rw [ha 9 (by decide), ha _ (fun z => by simp only [List.mem_cons, List.not_mem_nil, or_false] at z; omega)]
    exact s1 y (by omega) hgv
  · rw [ha 9 (by decide)] at hk
    obtain ⟨y, y1, y2, y3, y4⟩ := s2 p hp k hk
    have e : ¬ y = T := by omega
    refine ⟨y, by omega, ?_, ?_, ?_⟩
    · rw [ha _ (fun z => by simp only [List.mem_cons, List.not_mem_nil, or_false] at z; omega)]; exact y2
    · rw [(hc y e).1 2 (by decide)]; exact y3
    · rw [(hc y e).1 4 (by decide)]; exact y4
theorem TRp1_c {y : Nat} (hn : CNa v w q y) (hr : RVx u x s) (hv : TRv1 v u q s y) (h12 : (cI v 12).toInt ≤ (cI w 12).toInt) (h : TRp1 v u q s y) : TRp1 w x q s y := by
  obtain ⟨k, k1, k2, -, -, -, -, -, -, -, -, k11⟩ := hv
  obtain ⟨m1, m2⟩ := hn
  obtain ⟨t1, t2⟩ := hr.2 k k11
  have nk := n_of k1
  unfold TRp1 at h ⊢
  rw [m1 4 (by decide), m1 5 (by decide), m1 6 (by decide), m1 7 (by decide), m1 8 (by decide), m1 9 (by decide)]
  rw [nk] at h ⊢
  rw [t1 14 (by decide), t1 15 (by decide)]
  obtain ⟨h1, h2, h3⟩ := h
  refine ⟨h1, h2, ?_⟩
  rcases h3 with ⟨b1, b2, b3, b4, b5⟩ | h3
  · exact Or.inl ⟨b1, b2, b3, b4, by omega⟩
  · exact Or.inr h3
theorem TRp_new (h : TRp v u q s T) (hv : TRv v u q s T) (hc : CNx v w q T) (hf : ∀ y, y < T → mI v (169 * q + y) 2 = 0 → CNa v w q y) (hr : RVx u x s) (h12 : (cI v 12).toInt ≤ (cI w 12).toInt) (hn : mI w (169 * q + T) 2 = 0 → TRp1 w x q s T) : TRp w x q s (T + 1) := by
  intro y hy hs
  by_cases e : y = T
  · subst e
    exact hn hs
  · rw [(hc y e).1 2 (by decide)] at hs
    exact TRp1_c (hf y (by omega) hs) hr (hv y (by omega) hs) h12 (h y (by omega) hs)
theorem TRf1_c {y : Nat} (e : ¬ y = T) (hc : CNx v w q T) (hn : gl v (169 * q + y) → 0 ≤ (mI v (169 * q + y) 4).toInt) (hk : RKx u x s) (hb : RNx u x s) (h : TRf1 v u q s y) : TRf1 w x q s y := by
  unfold TRf1 rN at h ⊢
  rw [(hc y e).1 1 (by decide), (hc y e).1 2 (by decide), (hc y e).1 4 (by decide), (hc y e).2 0]
  obtain ⟨h1, h2, h3⟩ := h
  refine ⟨fun z => ?_, fun z => ?_, fun z => ?_⟩
  · obtain ⟨a1, a2⟩ := h1 z
    have n4 := nat4 (hn (by unfold gl; rw [z]; decide))
    obtain ⟨-, t2⟩ := hk.2 (mI v (169 * q + y) 4).toNatClampNeg (by omega)
    rw [t2 46 (by decide), t2 47 (by decide)]
    exact ⟨by have := hk.1; omega, a2⟩
  · obtain ⟨a1, a2⟩ := h2 z
    have n4 := nat4 (hn (by unfold gl; rw [z]; decide))
    have t2 := hb.2.2.1 (mI v (169 * q + y) 4).toNatClampNeg (by omega)
    rw [t2 34 (by decide), t2 35 (by decide)]
    exact ⟨by have := hb.1; omega, a2⟩
  · obtain ⟨a1, a2⟩ := h3 z
    have n4 := nat4 (hn (by unfold gl; rw [z]; decide))
    have t2 := hb.2.2.2 (mI v (169 * q + y) 4).toNatClampNeg (by omega)
    rw [t2 34 (by decide), t2 35 (by decide)]
    exact ⟨by have := hb.2.1; omega, a2⟩
theorem TRf_new (h : TRf v u q s T) (hn : TRn v q T) (hc : CNx v w q T) (hk : RKx u x s) (hb : RNx u x s) (hf : TRf1 w x q s T) : TRf w x q s (T + 1) := by
  intro y hy
  by_cases e : y = T
  · subst e
    exact hf
  · exact TRf1_c e hc (hn y (by omega)) hk hb (h y (by omega))
theorem TRk_c (h : TRk v u q s) (ht : w.2.2.2.2.2.2.2.1 = v.2.2.2.2.2.2.2.1) (hk : RKx u x s) (h48 : x.2.2.1 48 s = u.2.2.1 48 s) : TRk w x q s := by
  intro k hkk
  rw [h48] at hkk
  have ti : ∀ p j, tI w p j = tI v p j := fun p j => by
    show w.2.2.2.2.2.2.2.1 p j = v.2.2.2.2.2.2.2.1 p j
    rw [ht]
  obtain ⟨t1, -⟩ := hk.2 k hkk
  obtain ⟨b1, b2, b3, b4, b5, b6, b7⟩ := h k hkk
  unfold TRk1
  rw [ti, ti, t1 43 (by decide), t1 44 (by decide)]
  exact ⟨b1, b2, b3, b4, b5, b6, fun j hj => (ti _ j).trans (b7 j hj)⟩
theorem OFF_tr {r K : Nat} (h : OFF v q r K) (hN : ∀ y, r ≤ y → y ≤ r + K → CNa v w q y) : OFF w q r K := by
  obtain ⟨f, f1, f2, f3, f4⟩ := h
  refine ⟨f, f1, ?_, f3, fun j hj => ?_⟩
  · rw [(hN r (Nat.le_refl _) (by omega)).1 7 (by decide)]; exact f2
  · have n0 := (hN (r + 1 + j) (by omega) (by omega)).1
    rw [n0 7 (by decide), n0 9 (by decide)]
    exact f4 j hj
theorem TRo_new (h : TRo v q T) (hr : TRr v u q s T) (hc : ∀ y, ¬ y = T → CNa v w q y) (hn : (mI w (169 * q + T) 2 = 3 ∨ mI w (169 * q + T) 2 = 4) → ∀ K : Nat, (mI w (169 * q + T) 12).toInt = K → OFF w q T K) : TRo w q (T + 1) := by
  intro r hrT hs K hK
  by_cases e : r = T
  · subst e
    exact hn hs K hK
  · have n0 := (hc r e).1
    rw [n0 2 (by decide)] at hs
    rw [n0 12 (by decide)] at hK
    obtain ⟨K', F, P, hR, -⟩ := hr r (by omega) hs
    have a4 := hR.2.2.2.1
    have a5 := hR.2.2.2.2.1
    exact OFF_tr (h r (by omega) hs K hK) (fun y h1 h2 => hc y (by omega))
/-- a global name more -/
theorem TR2_new (h : TR v u q s T G) (h2 : TR2 v u q s T) (hc : ∀ y, ¬ y = T → CNa v w q y) (ha : PAx v w q so k0 T) (hso : so ≤ 4) (hsrt : (mI w (169 * q + T) 2).toInt = so) (hnum : (mI w (169 * q + T) 4).toInt = k0) (hrV : RVx u x s) (hrK : RKx u x s) (hrN : RNx u x s) (cnt : CTN w x q s (T + 1)) (num : NUM w x) (h12 : (cI v 12).toInt ≤ (cI w 12).toInt) (hnP : mI w (169 * q + T) 2 = 0 → TRp1 w x q s T) (hnF : TRf1 w x q s T) (hk : TRk w x q s) (hnO : (mI w (169 * q + T) 2 = 3 ∨ mI w (169 * q + T) 2 = 4) → ∀ K : Nat, (mI w (169 * q + T) 12).toInt = K → OFF w q T K) : TR2 w x q s (T + 1) := by
  obtain ⟨t1, t2, t3, t4, t5, t5', t6, t7, t8, t9, t10, t11, t12, t13, t14, t15, t16, t17⟩ := h
  have hx := CNx_a hc
  exact ⟨TRs_new h2.1 t11 t12 hx ha hso hsrt hnum, cnt, num, TRp_new h2.2.2.2.1 t15 hx (fun y hy _ => hc y (by omega)) hrV h12 hnP, TRf_new h2.2.2.2.2.1 t12 hx hrK hrN hnF, hk, TRo_new h2.2.2.2.2.2.2 t16 hc hnO⟩
end Grw2
/-! between two names -/
def IT (v : CSt) (u : RSt) (q s n i o T G : Nat) : Prop := EV1 v u n ∧ CE v v i 0 (eC v) ∧ RE u u i o 0 (eR u) ∧ cI v 16 = 0 ∧ TR v u q s T G ∧ TR2 v u q s T
def OWN0 (v : CSt) (u : RSt) (q : Nat) : Prop := (pI v q 15).toInt < 0 ∧ u.1 70 ≤ 1
/-- between two Items, at the token i -/
def IG (ty : Nat → Int32) (q s n o : Nat) (v : CSt) (u : RSt) (i : Nat) : Prop := ∃ T G, IT v u q s n i o T G ∧ OWN0 v u q ∧ tyF v = ty
/-- behind an Item, or behind a NAME of one -/
def IQ (ty : Nat → Int32) (q s n j o : Nat) : Int32 → CSt → Int32 → RSt → Prop := fun _ w _ x => IG ty q s n o w x j ∧ j ≤ n
