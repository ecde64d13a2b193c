/-! What the class's constructor tells more: its words, the eight names. -/
/-! the words -/
def chW (k : Nat) : Int32 := (((bs_0.getD k 0) &&& 255).toUInt32 % 65536).toInt32
def wz : Nat → Nat
  | 0 => 1
  | k + 1 => if chW k = 32 then wz k + 1 else wz k
def wf : Nat → Nat → Int64
  | 0 => fun _ => 0
  | k + 1 => if chW k = 32 then wf k else vp_updL (wf k) (wz k) ((wf k (wz k) <<< ((8 : Int32).toInt64 &&& 63)) ||| (chW k).toInt64)
def WI (k w : Nat) (f : Nat → Int64) : Prop := w = wz k ∧ f = wf k
theorem wz_29 : ∀ k, k < 151 → wz k ≤ 29 := by decide +kernel
theorem WI.c {k w : Nat} {f : Nat → Int64} {z : Int64} (h : WI k w f) (hc : ¬ chW k = 32) (hz : z = f w) : WI (k + 1) w (vp_updL f w ((z <<< ((8 : Int32).toInt64 &&& 63)) ||| (chW k).toInt64)) := by
  obtain ⟨h1, h2⟩ := h
  refine ⟨?_, ?_⟩
  · show w = (if chW k = 32 then wz k + 1 else wz k)
    rw [if_neg hc]
    exact h1
  · show _ = (if chW k = 32 then wf k else vp_updL (wf k) (wz k) ((wf k (wz k) <<< ((8 : Int32).toInt64 &&& 63)) ||| (chW k).toInt64))
    rw [if_neg hc, hz, h2, h1]
theorem WI.s {k w : Nat} {f : Nat → Int64} (h : WI k w f) (hc : chW k = 32) : WI (k + 1) (w + 1) f := by
  obtain ⟨h1, h2⟩ := h
  refine ⟨?_, ?_⟩
  · show w + 1 = (if chW k = 32 then wz k + 1 else wz k)
    rw [if_pos hc, h1]
  · show _ = (if chW k = 32 then wf k else _)
    rw [if_pos hc]
    exact h2
/-! the eight -/
def chE (k : Nat) : Int32 := (((bs_1.getD k 0) &&& 255).toUInt32 % 65536).toInt32
def eb : Nat → Int64
  | 0 => 0
  | p + 1 => if chE p = 32 then 0 else ((eb p) <<< ((8 : Int32).toInt64 &&& 63)) ||| (chE p).toInt64
def s8 : List Nat := [0, 4, 8, 12, 16, 20, 24, 29, 34]
def p8 : List Nat := [3, 7, 11, 15, 19, 23, 28, 33]
def I8 (k p : Nat) (z : Int64) : Prop := s8.getD k 0 ≤ p ∧ p ≤ p8.getD k 0 ∧ z = eb p
theorem i8_0 : ∀ k, k < 8 → s8.getD k 0 ≤ p8.getD k 0 ∧ eb (s8.getD k 0) = 0 := by decide +kernel
theorem i8_n : ∀ k, k < 8 → ∀ p, p < 34 → s8.getD k 0 ≤ p → p < p8.getD k 0 → ¬ chE p = 32 := by decide +kernel
theorem i8_b : ∀ k, k < 8 → p8.getD k 0 < 34 ∧ chE (p8.getD k 0) = 32 ∧ p8.getD k 0 + 1 = s8.getD (k + 1) 0 := by decide +kernel
theorem I8.z {k : Nat} (hk : k < 8) : I8 k (s8.getD k 0) 0 := ⟨Nat.le_refl _, (i8_0 k hk).1, (i8_0 k hk).2.symm⟩
theorem I8.c {k p : Nat} {z : Int64} (hk : k < 8) (h : I8 k p z) (hc : ¬ chE p = 32) : I8 k (p + 1) ((z <<< ((8 : Int32).toInt64 &&& 63)) ||| (chE p).toInt64) := by
  obtain ⟨h1, h2, h3⟩ := h
  obtain ⟨b1, b2, b3⟩ := i8_b k hk
  have hp : p ≠ p8.getD k 0 := fun e => hc (by rw [e]; exact b2)
  refine ⟨by omega, by omega, ?_⟩
  show _ = (if chE p = 32 then 0 else ((eb p) <<< ((8 : Int32).toInt64 &&& 63)) ||| (chE p).toInt64)
  rw [if_neg hc, h3]
theorem I8.e {k p : Nat} {z : Int64} (hk : k < 8) (h : I8 k p z) (hc : chE p = 32) : p = p8.getD k 0 ∧ z = eb (p8.getD k 0) := by
  obtain ⟨h1, h2, h3⟩ := h
  obtain ⟨b1, b2, b3⟩ := i8_b k hk
  have hp : p = p8.getD k 0 := by
    by_cases c : p < p8.getD k 0
    · exact absurd hc (i8_n k hk p (by omega) h1 c)
    · omega
  exact ⟨hp, by rw [h3, hp]⟩
def NP8 (k : Nat) (fs : List Value) : Prop := ∃ (a : Nat → Int32) (b : Nat → Int64), fs = [.long (b 0), .int (a 1), .int (a 2), .int (a 3), .int (a 4), .int (a 5), .int (a 6), .int (a 7), .int (a 8), .int (a 9), .long (b 10), .int (a 11), .int (a 12), .int (a 13), .int (a 14)] ∧ (∀ k, (rM k).1 ≤ (a k).toInt ∧ (a k).toInt ≤ (rM k).2) ∧ (b 0 = eb (p8.getD k 0) ∧ a 2 = 7 ∧ a 4 = bt_2.getD k 0 ∧ a 11 = bt_3.getD k 0) ∧ b 10 = 0
theorem NP8.mk {k : Nat} {b0 : Int64} {a1 a2 a3 a4 a5 a6 a7 a8 a9 a11 a12 a13 a14 : Int32} (h3 : -1 ≤ a3.toInt ∧ a3.toInt ≤ 159) (h4 : 0 ≤ a4.toInt) (h5 : 0 ≤ a5.toInt ∧ a5.toInt ≤ 4) (h7 : 0 ≤ a7.toInt ∧ a7.toInt ≤ 300) (h8 : 0 ≤ a8.toInt ∧ a8.toInt ≤ 1) (h9 : 0 ≤ a9.toInt ∧ a9.toInt ≤ 3500) (g0 : b0 = eb (p8.getD k 0)) (g2 : a2 = 7) (g4 : a4 = bt_2.getD k 0) (g11 : a11 = bt_3.getD k 0) : NP8 k [.long b0, .int a1, .int a2, .int a3, .int a4, .int a5, .int a6, .int a7, .int a8, .int a9, .long 0, .int a11, .int a12, .int a13, .int a14] := by
  obtain ⟨a, b, e, h, hb0⟩ := NPq.mk (b0 := b0) (a1 := a1) (a2 := a2) (a3 := a3) (a4 := a4) (a5 := a5) (a6 := a6) (a7 := a7) (a8 := a8) (a9 := a9) (a11 := a11) (a12 := a12) (a13 := a13) (a14 := a14) h3 h4 h5 h7 h8 h9
  refine ⟨a, b, e, h, ?_, hb0⟩
  injection e with e0 e
  injection e with e1 e
  injection e with e2 e
  injection e with e3 e
  injection e with e4 e
  injection e with e5 e
  injection e with e6 e
  injection e with e7 e
  injection e with e8 e
  injection e with e9 e
  injection e with e10 e
  injection e with e11 e
  injection e0 with e0
  injection e2 with e2
  injection e4 with e4
  injection e11 with e11
  exact ⟨e0.symm.trans g0, e2.symm.trans g2, e4.symm.trans g4, e11.symm.trans g11⟩
/-- as NGq, with what the object at i holds told by i -/
def NGi (ci : Nat) (P : Nat → List Value → Prop) (k : Nat) (f : Nat → Option Nat) (Gold G : va_W) : Prop := ∃ (g : Nat → Nat) (c : Nat → List Value), (∀ i, i < k → P i (c i)) ∧ (∀ i, f i = if i < k then some (g i) else none) ∧ G = ((List.range k).map (fun i => ((g i, .inr (ci, c i)) : Nat × va_E))).reverse ++ Gold
section NGis
variable {ci k q : Nat} {P : Nat → List Value → Prop} {f : Nat → Option Nat} {fs : List Value} {G Gold : va_W}
theorem NGi.zero : NGi ci P 0 (fun _ => none) Gold Gold := ⟨fun _ => 0, fun _ => [], fun i hi => absurd hi (Nat.not_lt_zero i), fun i => by rw [if_neg (Nat.not_lt_zero i)], rfl⟩
theorem NGi.step (h : NGi ci P k f Gold G) (hp : P k fs) : NGi ci P (k + 1) (fun i => if i = k then some q else f i) Gold ((q, .inr (ci, fs)) :: G) := by
  obtain ⟨g, c, h1, h2, h3⟩ := h
  refine ⟨fun i => if i = k then q else g i, fun i => if i = k then fs else c i, fun i hi => ?_, fun i => ?_, ?_⟩
  · by_cases e : i = k
    · simp only [e, if_true]; exact hp
    · simp only [if_neg e]; exact h1 i (by omega)
  · by_cases e : i = k
    · subst e
      simp
    · simp only [if_neg e]
      rw [h2 i]
      by_cases d : i < k
      · rw [if_pos d, if_pos (by omega)]
      · rw [if_neg d, if_neg (by omega)]
  · rw [List.range_succ, List.map_append, List.reverse_append, h3]
    have e : (List.range k).map (fun i => (((if i = k then q else g i), .inr (ci, (if i = k then fs else c i))) : Nat × va_E)) = (List.range k).map (fun i => ((g i, .inr (ci, c i)) : Nat × va_E)) := by
      apply List.map_congr_left
      intro i hi
      have : i ≠ k := by have := List.mem_range.mp hi; omega
      rw [if_neg this, if_neg this]
    rw [e]
    simp
theorem NGi.up (h : NGi ci P k f Gold G) (hk : k < 2147483648) (hp : P k fs) : NGi ci P (k + 1) (va_up f (nI k).toNatClampNeg (some q)) Gold ((q, .inr (ci, fs)) :: G) := by
  rw [nIk hk]
  exact NGi.step h hp
end NGis
theorem np_al8 {k : Nat} {c : Nat → List Value} (h : ∀ i, i < k → NP8 i (c i)) : ∃ x : Nat → (Nat → Int32) × (Nat → Int64), (∀ i, i < k → c i = [.long ((x i).2 0), .int ((x i).1 1), .int ((x i).1 2), .int ((x i).1 3), .int ((x i).1 4), .int ((x i).1 5), .int ((x i).1 6), .int ((x i).1 7), .int ((x i).1 8), .int ((x i).1 9), .long ((x i).2 10), .int ((x i).1 11), .int ((x i).1 12), .int ((x i).1 13), .int ((x i).1 14)]) ∧ (∀ i j, (rM j).1 ≤ ((x i).1 j).toInt ∧ ((x i).1 j).toInt ≤ (rM j).2) ∧ (∀ i, i < k → (x i).2 0 = eb (p8.getD i 0) ∧ (x i).1 2 = 7 ∧ (x i).1 4 = bt_2.getD i 0 ∧ (x i).1 11 = bt_3.getD i 0) ∧ ∀ i, (x i).2 10 = 0 := by
  have z0 : ∀ j, (rM j).1 ≤ (0 : Int32).toInt ∧ (0 : Int32).toInt ≤ (rM j).2 := by
    intro j
    have e : (0 : Int32).toInt = 0 := rfl
    rw [e]
    unfold rM
    repeat' split
    all_goals decide
  have one : ∀ i, ∃ y : (Nat → Int32) × (Nat → Int64), (i < k → c i = [.long (y.2 0), .int (y.1 1), .int (y.1 2), .int (y.1 3), .int (y.1 4), .int (y.1 5), .int (y.1 6), .int (y.1 7), .int (y.1 8), .int (y.1 9), .long (y.2 10), .int (y.1 11), .int (y.1 12), .int (y.1 13), .int (y.1 14)]) ∧ (∀ j, (rM j).1 ≤ (y.1 j).toInt ∧ (y.1 j).toInt ≤ (rM j).2) ∧ (i < k → y.2 0 = eb (p8.getD i 0) ∧ y.1 2 = 7 ∧ y.1 4 = bt_2.getD i 0 ∧ y.1 11 = bt_3.getD i 0) ∧ y.2 10 = 0 := by
    intro i
    by_cases hi : i < k
    · obtain ⟨a, b, h1, h2, h3, h4⟩ := h i hi
      exact ⟨(a, b), fun _ => h1, h2, fun _ => h3, h4⟩
    · exact ⟨(fun _ => 0, fun _ => 0), fun q => absurd q hi, z0, fun q => absurd q hi, rfl⟩
  obtain ⟨x, hx⟩ := Classical.axiomOfChoice one
  exact ⟨x, fun i hi => (hx i).1 hi, fun i j => (hx i).2.1 j, fun i hi => (hx i).2.2.1 hi, fun i => (hx i).2.2.2⟩
/-- nothing is loaded, nothing is traced, all numbers are 0 -/
def CSz (v : CSt) : Prop := cI v 9 = 0 ∧ cI v 1 = 0 ∧ cI v 2 = 3000 ∧ cI v 10 = 0 ∧ cI v 11 = 0 ∧ v.2.2.1 = (fun _ _ => 0) ∧ (∀ k, k ≠ 207 → cB v k = fun _ => 0) ∧ v.2.2.2.2.1 = (fun _ k => if k = 15 then (-1) else 0) ∧ v.2.2.2.2.2.1 = (fun _ _ _ => 0) ∧ v.2.2.2.2.2.2.2.1 = (fun _ _ => 0) ∧ v.2.2.2.2.2.2.2.2.2.2 = (fun k => [0, 1, 1, 1, 0].getD k 0)
/-- what a new class holds: the place, the words, the eight -/
def CS0 (v : CSt) : Prop := CSz v ∧ cI v 7 = -1 ∧ cB v 207 = wf 151 ∧ ∀ q, q < 2 → mI v (169 * q + 168) 2 = 8 ∧ mI v (169 * q + 168) 12 = 0 ∧ mI v (169 * q + 168) 3 = -1 ∧ ∀ k, k < 8 → mI v (169 * q + (160 + k)) 2 = 7 ∧ mL v (169 * q + (160 + k)) 0 = eb (p8.getD k 0) ∧ mI v (169 * q + (160 + k)) 4 = bt_2.getD k 0 ∧ mI v (169 * q + (160 + k)) 11 = bt_3.getD k 0
/-- the first numbers are 0 too -/
def CS9 (v : CSt) : Prop := CS0 v ∧ ∀ m, mL v m 10 = 0
