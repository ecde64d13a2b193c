/-! What holds between two calls of class and reference once runs are compared: J9. -/
/-- the program q of the class stays -/
def sm9 (q : Nat) (v w : CSt) : Prop := (∀ y k, y < 169 → mI w (169 * q + y) k = mI v (169 * q + y) k ∧ mL w (169 * q + y) k = mL v (169 * q + y) k) ∧ (∀ k, pI w q k = pI v q k) ∧ (∀ k, pA w q k = pA v q k) ∧ (∀ k, pB w q k = pB v q k) ∧ ∀ j k, j < 8 → k < 3 → tI w (8 * q + j) k = tI v (8 * q + j) k
/-- the side s of the reference stays, its code too -/
def sr9 (s : Nat) (u x : RSt) : Prop := sso s u x ∧ x.2.2.1 54 s = u.2.2.1 54 s ∧ ∀ j, 8000 * s ≤ j → j < 8000 * s + 8000 → (x.2.2.1 49 j, x.2.2.1 50 j, x.2.2.1 51 j, x.2.2.2 52 j, x.2.2.2 53 j) = (u.2.2.1 49 j, u.2.2.1 50 j, u.2.2.1 51 j, u.2.2.2 52 j, u.2.2.2 53 j)
section N17a
variable {v w : CSt} {u x : RSt} {q s T N r K : Nat} {gk : Nat → Int32}
theorem sm9_all (h : jt v w) (hB : w.2.2.2.2.2.2.1 = v.2.2.2.2.2.2.1) (ht : ∀ m k, k < 3 → tI w m k = tI v m k) : sm9 q v w := by
  obtain ⟨h1, h2, -, h4, h5⟩ := h
  refine ⟨fun y k _ => ⟨by rw [h4], by rw [h5]⟩, fun k => by rw [h1], fun k => by rw [h2], fun k => ?_, fun j k _ hk => ht _ k hk⟩
  show w.2.2.2.2.2.2.1 q k = v.2.2.2.2.2.2.1 q k
  rw [hB]
theorem sso_all (h : ju u x) : sso s u x := by
  obtain ⟨-, hA, hB⟩ := h
  refine ⟨fun k hk j _ => ?_, fun k hk j _ => ?_, fun k hk j _ => ?_, fun k hk => ?_, fun k hk j _ => ?_, fun k hk j _ => ?_, fun k hk j _ => ?_⟩
  · rw [hA k (by simp only [lA, List.mem_cons, List.not_mem_nil, or_false] at hk ⊢; omega)]
  · rw [hA k (by simp only [lA, List.mem_cons, List.not_mem_nil, or_false] at hk ⊢; omega)]
  · rw [hA k (by simp only [lA, List.mem_cons, List.not_mem_nil, or_false] at hk ⊢; omega)]
  · rw [hA k (by simp only [lA, List.mem_cons, List.not_mem_nil, or_false] at hk ⊢; omega)]
  · rw [hB k (by simp only [lB, List.mem_cons, List.not_mem_nil, or_false] at hk ⊢; omega)]
  · rw [hB k (by simp only [lB, List.mem_cons, List.not_mem_nil, or_false] at hk ⊢; omega)]
  · rw [hB k (by simp only [lB, List.mem_cons, List.not_mem_nil, or_false] at hk ⊢; omega)]
theorem sr9_all (h : ju u x) (h4 : je4 u x) : sr9 s u x := ⟨sso_all h, by rw [h4.1 54 (by decide)], fun j _ _ => by rw [h4.1 49 (by decide), h4.1 50 (by decide), h4.1 51 (by decide), h4.2 52 (by decide), h4.2 53 (by decide)]⟩
theorem bk_c (h : ∀ y k, y < 169 → mI w (169 * q + y) k = mI v (169 * q + y) k) (hy : r < 169) : bk w (169 * q + r) s = bk v (169 * q + r) s := by
  unfold bk
  rw [h r 2 hy, h r 4 hy]
theorem BDq_fr {md sz e1 e2 : Nat} {fk : Nat → Int32} {rk : Int32} (t16 : TRr v u q s T) (t17 : TRi v u q s T) (hT : T ≤ 160) (hm : sm9 q v w) (hr : sr9 s u x) (h : BDq N v u q s T md sz fk rk e1 e2) : BDq N w x q s T md sz fk rk e1 e2 := by
  obtain ⟨Φ, κ1, κ2, δ1, δ2, h1, h2, h3, h4, ⟨h5, h6⟩, ⟨h7, h8⟩, ⟨h9, h10, h11⟩, h12⟩ := h
  obtain ⟨m1, m2, m3, m4, -⟩ := hm
  obtain ⟨-, r2, r3⟩ := hr
  refine ⟨Φ, κ1, κ2, δ1, δ2, h1, fun vF uF g gk n hz => h2 vF uF g gk n (PHI_mo1 t16 t17 (fun y k hy => (m1 y k (by omega)).1) (Nat.le_refl _) hz), h3, h4, ⟨by rw [m2]; exact h5, fun y hy => ?_⟩, ⟨by rw [m2]; exact h7, fun y hy => ?_⟩, ⟨h9, h10, by rw [r2]; exact h11⟩, fun y hy hy2 => ?_⟩
  · rw [m3, m3, m3]; exact h6 y hy
  · rw [m4, m4]; exact h8 y hy
  · rw [r3 y (by omega) (by omega)]; exact h12 y hy hy2
theorem RRr_fr {F P : Nat} (hm : sm9 q v w) (hr : sso s u x) (hT : T ≤ 160) (h : RRr v u q s T r K F P) : RRr w x q s T r K F P := by
  obtain ⟨m1, -⟩ := hm
  have hKT := h.2.2.2.2.1
  have b0 : 0 ≤ (mI v (169 * q + r) 4).toInt := h.1
  have b1 : (mI v (169 * q + r) 4).toInt ≤ 15 := h.2.1
  have b2 := h.2.2.1
  have h27 : (u.2.2.1 27 s).toInt ≤ 160 := h.2.2.2.2.2.2.2.2.1
  have nn := nat_cl b0
  have hbk : bk v (169 * q + r) s / 24 = s := by
    unfold bk
    by_cases c : mI v (169 * q + r) 2 = 3
    · have := b2 c
      rw [if_pos c]
      omega
    · rw [if_neg c]
      omega
  refine RRr_tr h (fun y y1 y2 => ⟨fun k _ => (m1 y k (by omega)).1, fun k => (m1 y k (by omega)).2⟩) (fun c hc => hr.2.1 c ?_ _ hbk) ⟨by rw [hr.2.2.2.1 27 (by decide)]; exact Int.le_refl _, by rw [hr.2.2.2.1 27 (by decide)]; exact h27, fun k hk => ⟨fun c hc => hr.1 c ?_ _ (by omega), fun c hc => hr.2.2.2.2.1 c ?_ _ (by omega)⟩⟩ (Nat.le_refl _)
  · simp only [List.mem_cons, List.not_mem_nil, or_false] at hc ⊢
    omega
  · simp only [List.mem_cons, List.not_mem_nil, or_false] at hc ⊢
    omega
  · simp only [List.mem_cons, List.not_mem_nil, or_false] at hc ⊢
    omega
theorem TBN_fr (h : TBN N v u q s T) (hm : sm9 q v w) (hr : sr9 s u x) (hf : FSq w) : TBN N w x q s T := by
  obtain ⟨tb, t16, s7, hci, -⟩ := h
  have hT : T ≤ 160 := tb.2.1
  have tn := tb.2.2.2.1
  have t9 := tb.2.2.2.2.2.2.2.2.1
  have t17 := tb.2.2.2.2.2.2.2.2.2.1
  have c := tb.2.2.2.2.2.2.1
  have m1 := hm.1
  have n1 : ∀ y k, y < 169 → mI w (169 * q + y) k = mI v (169 * q + y) k := fun y k hy => (m1 y k hy).1
  refine ⟨TBM_cong tb (fun y hy => ⟨fun k _ => (m1 y k hy).1, fun k => (m1 y k hy).2⟩) (hm.2.1 12) (fun k _ => hm.2.2.1 k) hr.1, fun r hr1 hr2 => ?_, fun r hr1 hr2 K hK => ?_, fun y hy => ⟨fun hs K hK => ?_, fun hs => ?_⟩, hf⟩
  · rw [n1 r 2 (by omega)] at hr2
    obtain ⟨K, F, P, hRR, a, b⟩ := t16 r hr1 hr2
    refine ⟨K, F, P, RRr_fr hm hr.1 hT hRR, fun z => ?_, fun z => ?_⟩
    · rw [n1 r 2 (by omega)] at z
      rw [n1 r 4 (by omega), hr.1.2.2.2.1 36 (by decide)]
      exact a z
    · rw [n1 r 2 (by omega)] at z
      rw [n1 r 4 (by omega), hr.1.2.2.2.1 37 (by decide)]
      exact b z
  · rw [n1 r 2 (by omega)] at hr2
    rw [n1 r 12 (by omega)] at hK
    obtain ⟨K', F, P, hRR, -⟩ := t16 r hr1 hr2
    have eK : K' = K := by have := hRR.2.2.2.1; omega
    subst eK
    have := hRR.2.2.2.2.1
    exact OFF_cg (s7 r hr1 hr2 K' hK) (fun z k z1 z2 => n1 z k (by omega))
  · rw [n1 y 2 (by omega)] at hs
    rw [n1 y 12 (by omega)] at hK
    obtain ⟨K', F, P, hRR, -⟩ := t16 y hy hs
    have eK : K' = K := by have := hRR.2.2.2.1; omega
    subst eK
    have hKT := hRR.2.2.2.2.1
    have b0 : 0 ≤ (mI v (169 * q + y) 4).toInt := hRR.1
    have b1 : (mI v (169 * q + y) 4).toInt ≤ 15 := hRR.2.1
    have b2 := hRR.2.2.1
    have hP := hRR.2.2.2.2.2.2.2.2.2.2.1
    have hPK := hRR.2.2.2.2.2.2.2.2.2.2.2.1
    have nn := nat_cl b0
    have hbk : bk v (169 * q + y) s / 24 = s := by
      unfold bk
      by_cases c : mI v (169 * q + y) 2 = 3
      · have := b2 c
        rw [if_pos c]
        omega
      · rw [if_neg c]
        omega
    obtain ⟨p1, e1, e2, p2, p3, p4⟩ := (hci y hy).1 hs K' hK
    have hO := s7 y hy hs K' hK
    have hO' : OFF w q y K' := OFF_cg hO (fun z k z1 z2 => n1 z k (by omega))
    refine ⟨fun i hi => ?_, e1, e2, by rw [n1 y 13 (by omega)]; exact p2, by rw [bk_c n1 (by omega), hr.1.2.1 32 (by decide) _ hbk]; exact p3, ?_⟩
    · rw [n1 y 11 (by omega)] at hi
      rw [n1 (y + 1 + i) 7 (by omega)]
      exact p1 i hi
    · rw [n1 y 2 (by omega), n1 y 7 (by omega), n1 y 5 (by omega), fkq_cg hO (fun j k hj => n1 (y + 1 + j) k (by omega)) hO']
      exact BDq_fr t16 t17 hT hm hr p4
  · rw [n1 y 2 (by omega)] at hs
    obtain ⟨e1, e2, p2, p3, p4⟩ := (hci y hy).2 hs
    have k0 : 0 ≤ (mI v (169 * q + y) 4).toInt := tn y hy (by unfold gl; rw [hs]; decide)
    have k1 := ((t9 y hy).1 hs).1
    have k8 := c.2.2.2.2.2.2.2.1.2
    have nn := nat_cl k0
    refine ⟨e1, e2, ?_, ?_, BDq_fr t16 t17 hT hm hr p4⟩
    · rw [n1 y 4 (by omega), hm.2.2.2.2 _ 2 (by omega) (by omega)]; exact p2
    · rw [n1 y 4 (by omega), hr.1.2.2.1 45 (by decide) _ (by omega)]; exact p3
theorem GKf_fr (h : GKf v q T gk) (hT : T ≤ 160) (t16 : TRr v u q s T) (t17 : TRi v u q s T) (n1 : ∀ y k, y < 169 → mI w (169 * q + y) k = mI v (169 * q + y) k) : GKf w q T gk := by
  intro y hy
  obtain ⟨a, b⟩ := h y hy
  refine ⟨fun h0 hh => ?_, fun h1 r hr => ?_⟩
  · rw [n1 y 2 (by omega)] at h0
    rw [n1 y 6 (by omega)] at hh
    rw [n1 y 9 (by omega), n1 y 7 (by omega), n1 y 5 (by omega)]
    exact a h0 hh
  · rw [n1 y 2 (by omega)] at h1
    rw [n1 y 14 (by omega)] at hr
    obtain ⟨k0, r', k1, k2, k3, k4, k5, -⟩ := t17 y hy h1
    have er : r' = r := by omega
    subst er
    obtain ⟨K, F, P, hR, -⟩ := t16 r' k3 (Or.inl k5)
    have hK := hR.2.2.2.1
    have hKT := hR.2.2.2.2.1
    obtain ⟨b1, b2, b3⟩ := b h1 r' hr
    refine ⟨by rw [n1 y 9 (by omega)]; exact b1, by rw [n1 y 9 (by omega), n1 r' 7 (by omega)]; exact b2, fun k hk j hj => ?_⟩
    rw [n1 r' 12 (by omega)] at hk
    rw [n1 (r' + 1 + k) 7 (by omega)] at hj
    rw [n1 y 9 (by omega), n1 (r' + 1 + k) 9 (by omega), n1 (r' + 1 + k) 5 (by omega)]
    exact b3 k hk j hj
end N17a
/-- memory alike; numbers of cells that are no LONG lie in int range -/
def MEq (v : CSt) (u : RSt) (gk : Nat → Int32) : Prop := (∀ c, c < 2000 → cB v 235 c = u.2.2.2 82 c) ∧ ∀ c, c < 2000 → ¬ gk c = 4 → i32 (cB v 235 c)
/-- images alike -/
def IMq (v : CSt) (u : RSt) : Prop := ∀ i, i < 64 → (cA v 211 i = u.2.2.1 84 i ∧ cA v 212 i = u.2.2.1 84 (64 + i)) ∧ (cA v 213 i = u.2.2.1 85 i ∧ cA v 214 i = u.2.2.1 85 (64 + i)) ∧ (cA v 215 i = u.2.2.1 86 i ∧ cA v 216 i = u.2.2.1 86 (64 + i)) ∧ cA v 217 i = u.2.2.1 87 i ∧ cA v 218 i = u.2.2.1 87 (64 + i)
/-- where the k-th latest change lies in a ring whose next place is a -/
def rg9 (a k : Nat) : Nat := (a + 199 - k) % 100
/-- changes seen alike -/
def EVz (v : CSt) (u : RSt) : Prop := cI v 10 = u.1 103 ∧ (0 ≤ (cI v 10).toInt ∧ (cI v 10).toInt ≤ 100) ∧ (0 ≤ (cI v 11).toInt ∧ (cI v 11).toInt < 100) ∧ ∀ k : Nat, (k : Int) < (cI v 10).toInt → cA v 223 (rg9 (cI v 11).toNatClampNeg k) = u.2.2.1 99 k ∧ cA v 224 (rg9 (cI v 11).toNatClampNeg k) = u.2.2.1 100 k ∧ cA v 225 (rg9 (cI v 11).toNatClampNeg k) = u.2.2.1 101 k ∧ cB v 226 (rg9 (cI v 11).toNatClampNeg k) = u.2.2.2 102 k
/-- tasks alike -/
def TKq (v : CSt) (u : RSt) (q s : Nat) : Prop := ∀ k : Nat, (k : Int) < (u.2.2.1 48 s).toInt → tI v (8 * q + k) 0 = u.2.2.1 43 (8 * s + k) ∧ tI v (8 * q + k) 1 = u.2.2.1 44 (8 * s + k) ∧ (1 ≤ (tI v (8 * q + k) 0).toInt ∧ (tI v (8 * q + k) 0).toInt ≤ 1000) ∧ (0 ≤ (tI v (8 * q + k) 1).toInt ∧ (tI v (8 * q + k) 1).toInt < (tI v (8 * q + k) 0).toInt) ∧ tI v (8 * q + k) 3 = u.2.2.1 88 k
/-- what is traced: last numbers alike, places that are there -/
def LTq (v : CSt) (u : RSt) (q T : Nat) : Prop := ∀ i : Nat, (i : Int) < (cI v 9).toInt → cB v 222 i = u.2.2.2 97 i ∧ ∃ y, y < T ∧ mI v (169 * q + y) 2 = 0 ∧ mI v (169 * q + y) 4 = cA v 220 i ∧ 0 ≤ (cA v 221 i).toInt ∧ (cA v 221 i).toInt < (mI v (169 * q + y) 7).toInt
/-- ticks, watchdog -/
def CLq (n : Nat) (v : CSt) (u : RSt) : Prop := (cI v 1 = u.1 104 ∧ 0 ≤ (cI v 1).toInt ∧ (cI v 1).toInt ≤ (n : Int)) ∧ cI v 2 = u.1 105 ∧ 1 ≤ (cI v 2).toInt ∧ (cI v 2).toInt ≤ 5000
/-- all but the tables -/
def J9s (n : Nat) (v : CSt) (u : RSt) (q s T : Nat) (gk : Nat → Int32) : Prop := MEq v u gk ∧ TKq v u q s ∧ LTq v u q T ∧ IMq v u ∧ EVz v u ∧ CLq n v u
def J9 (N n : Nat) (v : CSt) (u : RSt) : Prop := J8 v u ∧ (OP8 v 0 ∧ OP8 v 1) ∧ ∃ (s T : Nat) (gk : Nat → Int32), (s < 2 ∧ (u.1 55).toInt = (s : Int)) ∧ TBN N v u (cR v 0) s T ∧ GKf v (cR v 0) T gk ∧ J9s n v u (cR v 0) s T gk
section N17b
variable {v w : CSt} {u x : RSt} {q s T N n r K : Nat} {gk : Nat → Int32}
theorem MEq_fr (h : MEq v u gk) (h1 : cB w 235 = cB v 235) (h2 : x.2.2.2 82 = u.2.2.2 82) : MEq w x gk := by
  unfold MEq
  rw [h1, h2]
  exact h
theorem IMq_fr (h : IMq v u) (h1 : ∀ k, k ∈ qeA → cA w k = cA v k) (h2 : ∀ k, k ∈ rfA → x.2.2.1 k = u.2.2.1 k) : IMq w x := by
  unfold IMq
  rw [h1 211 (by decide), h1 212 (by decide), h1 213 (by decide), h1 214 (by decide), h1 215 (by decide), h1 216 (by decide), h1 217 (by decide), h1 218 (by decide), h2 84 (by decide), h2 85 (by decide), h2 86 (by decide), h2 87 (by decide)]
  exact h
theorem EVz_fr (h : EVz v u) (h10 : cI w 10 = cI v 10) (h11 : cI w 11 = cI v 11) (h1 : ∀ k, k ∈ [223, 224, 225] → cA w k = cA v k) (hb : cB w 226 = cB v 226) (h103 : x.1 103 = u.1 103) (h2 : ∀ k, k ∈ [99, 100, 101] → x.2.2.1 k = u.2.2.1 k) (h3 : x.2.2.2 102 = u.2.2.2 102) : EVz w x := by
  unfold EVz
  rw [h10, h11, h1 223 (by decide), h1 224 (by decide), h1 225 (by decide), hb, h103, h2 99 (by decide), h2 100 (by decide), h2 101 (by decide), h3]
  exact h
theorem TKq_fr (h : TKq v u q s) (hc : (u.2.2.1 48 s).toInt ≤ 8) (hm : ∀ j k, j < 8 → k < 4 → tI w (8 * q + j) k = tI v (8 * q + j) k) (hr : sso s u x) (h88 : x.2.2.1 88 = u.2.2.1 88) : TKq w x q s := by
  intro k hk
  rw [hr.2.2.2.1 48 (by decide)] at hk
  rw [hm k 0 (by omega) (by decide), hm k 1 (by omega) (by decide), hm k 3 (by omega) (by decide), hr.2.2.1 43 (by decide) _ (by omega), hr.2.2.1 44 (by decide) _ (by omega), h88]
  exact h k hk
theorem LTq_fr (h : LTq v u q T) (hT : T ≤ 160) (n1 : ∀ y k, y < 169 → mI w (169 * q + y) k = mI v (169 * q + y) k) (h9 : cI w 9 = cI v 9) (h222 : cB w 222 = cB v 222) (h220 : cA w 220 = cA v 220) (h221 : cA w 221 = cA v 221) (h97 : x.2.2.2 97 = u.2.2.2 97) : LTq w x q T := by
  intro i hi
  rw [h9] at hi
  obtain ⟨a, y, b1, b2, b3, b4, b5⟩ := h i hi
  rw [h222, h97, h220, h221]
  exact ⟨a, y, b1, by rw [n1 y 2 (by omega)]; exact b2, by rw [n1 y 4 (by omega)]; exact b3, b4, by rw [n1 y 7 (by omega)]; exact b5⟩
theorem CLq_fr (h : CLq n v u) (h1 : cI w 1 = cI v 1) (h2 : cI w 2 = cI v 2) (h3 : x.1 104 = u.1 104) (h4 : x.1 105 = u.1 105) : CLq (n + 1) w x := by
  obtain ⟨⟨a1, a2, a3⟩, a4⟩ := h
  unfold CLq
  rw [h1, h2, h3, h4]
  exact ⟨⟨a1, a2, by omega⟩, a4⟩
theorem OP8_fr (h : OP8 v q) (hm : mI w = mI v) : OP8 w q := fun k hk => by rw [hm]; exact h k hk
/-- a call that leaves the tables and the code -/
theorem J9_tb (hJ : J9 N n v u) (h8 : J8 w x) (ht : jt v w) (hB : w.2.2.2.2.2.2.1 = v.2.2.2.2.2.2.1) (ht3 : ∀ m k, k < 3 → tI w m k = tI v m k) (hu : ju u x) (h4 : je4 u x) (hs : ∀ (s T : Nat) (gk : Nat → Int32), s < 2 → (u.1 55).toInt = (s : Int) → TBN N v u (cR v 0) s T → GKf v (cR v 0) T gk → J9s n v u (cR v 0) s T gk → J9s (n + 1) w x (cR v 0) s T gk) : J9 N (n + 1) w x := by
  obtain ⟨-, hO, s, T, gk, ⟨h2, h55⟩, tb, hg, hj⟩ := hJ
  have hR : cR w 0 = cR v 0 := ht.2.2.1.1
  have hm : sm9 (cR v 0) v w := sm9_all ht hB ht3
  refine ⟨h8, ⟨OP8_fr hO.1 ht.2.2.2.1, OP8_fr hO.2 ht.2.2.2.1⟩, s, T, gk, ⟨h2, by rw [hu.1]; exact h55⟩, ?_⟩
  rw [hR]
  exact ⟨TBN_fr tb hm (sr9_all hu h4) (tb.2.2.2.2.eq ht.2.2.2.1 ht.2.2.2.2), GKf_fr hg tb.1.2.1 tb.2.1 tb.1.2.2.2.2.2.2.2.2.2.1 (fun y k hy => (hm.1 y k hy).1), hs s T gk h2 h55 tb hg hj⟩
/-- a call that only looks -/
theorem J9_look (hJ : J9 N n v u) (h8 : J8 w x) (ht : jt v w) (h2 : je2 v w) (h3 : je3 v w) (hu : ju u x) (h4 : je4 u x) (h5 : je5 u x) : J9 N (n + 1) w x := by
  have tI_ : ∀ m k, tI w m k = tI v m k := fun m k => by
    show w.2.2.2.2.2.2.2.1 m k = v.2.2.2.2.2.2.2.1 m k
    rw [h2.2]
  refine J9_tb hJ h8 ht h2.1 (fun m k _ => tI_ m k) hu h4 (fun s T gk hs h55 tb hg hj => ?_)
  obtain ⟨a1, a2, a3, a4, a5, a6⟩ := hj
  obtain ⟨b1, b2, b3⟩ := h3
  obtain ⟨c1, c2, c3⟩ := h5
  have hT : T ≤ 160 := tb.1.2.1
  refine ⟨MEq_fr a1 (b3 235 (by decide)) (c3 82 (by decide)), TKq_fr a2 tb.1.2.2.2.2.2.2.1.2.2.2.2.2.2.2.1.2 (fun j k _ _ => tI_ _ k) (sso_all hu) (c2 88 (by decide)), LTq_fr a3 hT (fun y k _ => by rw [ht.2.2.2.1]) (b1 9 (by decide)) (b3 222 (by decide)) (b2 220 (by decide)) (b2 221 (by decide)) (c3 97 (by decide)), IMq_fr a4 b2 c2, EVz_fr a5 (b1 10 (by decide)) (b1 11 (by decide)) (fun k hk => b2 k ?_) (b3 226 (by decide)) (c1 103 (by decide)) (fun k hk => c2 k ?_) (c3 102 (by decide)), CLq_fr a6 (b1 1 (by decide)) (b1 2 (by decide)) (c1 104 (by decide)) (c1 105 (by decide))⟩
  · simp only [qeA, List.mem_cons, List.not_mem_nil, or_false] at hk ⊢
    omega
  · simp only [rfA, List.mem_cons, List.not_mem_nil, or_false] at hk ⊢
    omega
end N17b
/-! Numbers of variables alike: value, poke. -/
def IMo (v : CSt) (u : RSt) : Prop := ∀ i, i < 64 → cA v 213 i = u.2.2.1 85 i ∧ cA v 214 i = u.2.2.1 85 (64 + i)
section N18a
variable {v w : CSt} {u x : RSt} {q s T N M n y k : Nat} {l1 l2 : Int32} {l3 : Int64} {gk : Nat → Int32}
theorem at_T {c : Nat} {a : Int32} (ha : a.toInt = (c : Int)) (hc : c < 2000) : pq (F_X2_numberAt N a v) (fun z w => w = v ∧ z = cB v 235 c) := by
  have e0 : (0 : Int32).toInt = 0 := by decide
  have e6096 : (6096 : Int32).toInt = 6096 := by decide
  unfold F_X2_numberAt B_X2_numberAt_0
  rw [if_neg (fun q => by have := Int32.lt_iff_toInt_lt.mp q; omega), if_neg (fun q => by have := Int32.le_iff_toInt_le.mp q; omega)]
  refine pq_rd (pq_some ⟨rfl, ?_⟩)
  rw [n_of ha]
theorem put_T {c : Nat} {a : Int32} {z : Int64} (ha : a.toInt = (c : Int)) (hc : c < 2000) : pq (F_X2_put N a z v) (fun _ w => w = xB v 235 c z) := by
  have e0 : (0 : Int32).toInt = 0 := by decide
  have e6096 : (6096 : Int32).toInt = 6096 := by decide
  unfold F_X2_put B_X2_put_0
  rw [if_neg (fun q => by have := Int32.lt_iff_toInt_lt.mp q; omega), if_neg (fun q => by have := Int32.le_iff_toInt_le.mp q; omega)]
  refine pq_wc (pq_some ?_)
  rw [n_of ha]
/-- the number of a place, in both -/
theorem num_T (hV : VY v u q s T y k l1 l2) (hM : ∀ c, c < 2000 → cB v 235 c = u.2.2.2 82 c) (hI : IMo v u) : pq (F_X2_numberOf N (169 * q + y) l2 v) (fun z w => w = v ∧ pp (F_numberOf M l1 l2 u) (fun r x => x = u ∧ r = z)) := by
  have e0 : (0 : Int32).toInt = 0 := by decide
  have e2 : (2 : Int32).toInt = 2 := by decide
  have e5 : (5000 : Int32).toInt = 5000 := by decide
  have e6 : (6000 : Int32).toInt = 6000 := by decide
  have e64 : (64 : Int32).toInt = 64 := by decide
  obtain ⟨y1, y2, y3, y4, y5, y6, y7, y8, yv, yq⟩ := hV
  obtain ⟨k', z1, z2, z3, z4, z5, z6, z7, z8, z9, z10, z11⟩ := yv
  have ek : k' = k := by omega
  subst ek
  have nk : (mI v (169 * q + y) 4).toNatClampNeg = k' := n_of y4
  obtain ⟨g1, g2, g3⟩ := yq
  rw [nk] at g3
  have rr : ∀ c : Nat, u.2.2.1 c (160 * u.1 55 + l1).toNatClampNeg = u.2.2.1 c (160 * s + k') := fun c => by rw [y6]
  unfold F_X2_numberOf B_X2_numberOf_0 B_X2_numberOf_23 F_numberOf B_numberOf_0
  rcases g3 with ⟨hw, a14, a15, a16, a17⟩ | ⟨hw, b1, b2, a14, a15, a16, a17⟩
  · have np : ¬ (mI v (169 * q + y) 6 = 2 ∨ mI v (169 * q + y) 6 = 3) := fun r => by
      rcases hw with w0 | w0 <;> rcases r with r | r <;> (rw [w0] at r; exact absurd r (by decide))
    have n2 : ¬ (2 : Int32) ≤ mI v (169 * q + y) 6 := fun r => by
      have := Int32.le_iff_toInt_le.mp r
      rcases hw with w0 | w0 <;> (rw [w0] at this; exact absurd this (by decide))
    obtain ⟨c, hc1, hc2⟩ : ∃ c : Nat, (mI v (169 * q + y) 9 + l2).toInt = (c : Int) ∧ c < 2000 := ⟨((mI v (169 * q + y) 9).toInt + l2.toInt).toNat, by rw [tI_add (by omega) (by omega)]; omega, by omega⟩
    refine ks_placed y2 (fun r => absurd r np) (fun _ => ?_)
    rw [if_pos rfl]
    refine pq_bc (pq_m (at_T hc1 hc2) (fun z w hz => pq_some ⟨hz.1, ?_⟩))
    refine pp_rd ?_
    rw [rr 12, z5, if_neg n2]
    refine pp_rd (pp_rd (pp_some ⟨rfl, ?_⟩))
    rw [rr 15, a15, n_of hc1, hz.2, hM c hc2]
  · have hn := nb_64 z9
    obtain ⟨c, hc1, hc2⟩ : ∃ c : Nat, (mI v (169 * q + y) 9).toInt = (c : Int) ∧ c + nb (mI v (169 * q + y) 5) ≤ 64 := ⟨(mI v (169 * q + y) 9).toInt.toNat, by omega, by omega⟩
    have n2 : (2 : Int32) ≤ mI v (169 * q + y) 6 := by
      rcases hw with w0 | w0 <;> (rw [w0]; decide)
    refine ks_placed y2 (fun _ => ?_) (fun r => absurd hw r)
    rw [if_neg (by decide)]
    refine ks_input y2 (fun h2 => ?_) (fun h2 => ?_)
    · rw [if_neg (by decide)]
      refine pq_bc (pq_m (i_get hc1 z9 hc2) (fun z w hz => pq_some ⟨hz.1, ?_⟩))
      refine pp_rd ?_
      rw [rr 12, z5, if_pos n2]
      refine pp_rd (pp_rd (pp_bn ?_))
      rw [rr 15, rr 10, z3, a15, if_pos h2]
      have hcl : (6000 + mI v (169 * q + y) 9).toInt = ((6000 + c : Nat) : Int) := by rw [tI_add (by omega) (by omega)]; omega
      unfold F_read B_read_0
      rw [if_pos (Int32.le_iff_toInt_le.mpr (by omega)), if_neg (fun z => by have := Int32.lt_iff_toInt_lt.mp z; omega)]
      have hcf : (6000 + mI v (169 * q + y) 9 - 6000).toInt = (c : Int) := by
        rw [tI_sub (by omega) (by omega)]
        omega
      refine pp_m (i_read hcf z9 (by omega)) (fun r8 x8 h8 => pp_some ⟨h8.1, ?_⟩)
      rw [h8.2, hz.2, q_cut]
      exact congrArg _ (jn_cong _ _ _ _ (fun i hi => ((hI (c + i) (by omega)).1).symm))
    · rw [if_pos rfl]
      refine pq_bc (pq_m (i_get hc1 z9 hc2) (fun z w hz => pq_some ⟨hz.1, ?_⟩))
      refine pp_rd ?_
      rw [rr 12, z5, if_pos n2]
      refine pp_rd (pp_rd (pp_bn ?_))
      rw [rr 15, rr 10, z3, a15, if_neg h2]
      have hcl : (5000 + mI v (169 * q + y) 9).toInt = ((5000 + c : Nat) : Int) := by rw [tI_add (by omega) (by omega)]; omega
      unfold F_read B_read_0
      rw [if_pos (Int32.le_iff_toInt_le.mpr (by omega)), if_pos (Int32.lt_iff_toInt_lt.mpr (by omega))]
      have hcf : (64 + (5000 + mI v (169 * q + y) 9) - 5000).toInt = ((64 + c : Nat) : Int) := by
        have a1 : (64 + (5000 + mI v (169 * q + y) 9)).toInt = ((5064 + c : Nat) : Int) := by rw [tI_add (by omega) (by omega)]; omega
        rw [tI_sub (by omega) (by omega)]
        omega
      refine pp_m (i_read hcf z9 (by omega)) (fun r8 x8 h8 => pp_some ⟨h8.1, ?_⟩)
      rw [h8.2, hz.2, q_cut]
      refine congrArg _ (jn_cong _ _ _ _ (fun i hi => ?_))
      rw [show 64 + c + i = 64 + (c + i) by omega]
      exact ((hI (c + i) (by omega)).2).symm
theorem IMq.o (h : IMq v u) : IMo v u := fun i hi => (h i hi).2.1
/-- value -/
theorem value_T (h : TBM v u q s T) (hq : cR v 0 = q) (h55 : (u.1 55).toInt = (s : Int)) (hs : s < 2) (hM : ∀ c, c < 2000 → cB v 235 c = u.2.2.2 82 c) (hI : IMo v u) : pq (F_X11_value N l1 l2 v) (fun y w => pp (F_value M l1 l2 u) (fun r x => (y = .inl 3 ∧ x.1 9 = 1) ∨ (y = .inr r ∧ x.1 9 = 0))) := by
  unfold F_X11_value B_X11_value_0
  refine pq_bc (pq_m (hasP_T (M := M) h hq h55 hs) (fun r w hw => ?_))
  obtain ⟨e, hp⟩ := hw
  rw [e]
  unfold F_value B_value_0
  by_cases r0 : r = 0
  · rw [if_pos r0]
    refine pq_some (pp_bn (pp_m hp (fun r' x hx => ?_)))
    rcases hx with ⟨-, a2, a3⟩ | ⟨a1, -⟩
    · rw [a2, if_pos rfl]
      exact pp_some (Or.inl ⟨rfl, a3⟩)
    · rw [a1] at r0
      exact absurd r0 (by decide)
  · rw [if_neg r0]
    refine pq_sw (pp_bn (pp_m hp (fun r' x hx => ?_)))
    rcases hx with ⟨a1, -⟩ | ⟨-, a2, a3, y, k, hV, hn⟩
    · exact absurd a1 r0
    rw [a2, a3, if_neg (by decide)]
    refine pp_sw (pq_ok (fun _ => ?_))
    rw [hq]
    refine pq_bc (pq_m (hn N) (fun r5 w5 h5 => pq_ok (fun _ => ?_)))
    rw [h5.1, h5.2]
    refine pq_bc (pq_m (num_T (M := M) (u := sI u 9 0) hV hM hI) (fun z w6 h6 => pq_some ?_))
    refine pp_bn (pp_m h6.2 (fun r7 x7 h7 => pp_some (Or.inr ⟨by rw [h7.2], ?_⟩)))
    rw [h7.1]
    rfl
/-- a change of a place, in both -/
theorem chg_T (hV : VY v u q s T y k l1 l2) (hn2 : ¬ mI v (169 * q + y) 6 = 2) (hg : GKf v q T gk) (hM : MEq v u gk) (hI : IMq v u) : pq (F_X2_change N (169 * q + y) l2 l3 v) (fun _ w => pp (F_write M (u.2.2.1 15 (160 * s + k) + l2) (u.2.2.1 10 (160 * s + k)) l3 u) (fun _ x => (MEq w x gk ∧ IMq w x) ∧ (∀ j, j ≠ 214 → cA w j = cA v j) ∧ (∀ j, j ≠ 235 → cB w j = cB v j) ∧ w.1 = v.1 ∧ w.2.2.2.2 = v.2.2.2.2 ∧ x.1 = u.1 ∧ (∀ j, j ≠ 85 → x.2.2.1 j = u.2.2.1 j) ∧ (∀ j, j ≠ 82 → x.2.2.2 j = u.2.2.2 j))) := by
  have e0 : (0 : Int32).toInt = 0 := by decide
  have e5 : (5000 : Int32).toInt = 5000 := by decide
  have e64 : (64 : Int32).toInt = 64 := by decide
  obtain ⟨y1, y2, y3, y4, y5, y6, y7, y8, yv, yq⟩ := hV
  obtain ⟨k', z1, z2, z3, z4, z5, z6, z7, z8, z9, z10, z11⟩ := yv
  have ek : k' = k := by omega
  subst ek
  have nk : (mI v (169 * q + y) 4).toNatClampNeg = k' := n_of y4
  obtain ⟨g1, g2, g3⟩ := yq
  rw [nk] at g3
  obtain ⟨hM1, hM2⟩ := hM
  unfold F_X2_change B_X2_change_0
  rw [z3]
  rcases g3 with ⟨hw, a14, a15, a16, a17⟩ | ⟨hw, b1, b2, a14, a15, a16, a17⟩
  · have np : ¬ (mI v (169 * q + y) 6 = 2 ∨ mI v (169 * q + y) 6 = 3) := fun r => by
      rcases hw with w0 | w0 <;> rcases r with r | r <;> (rw [w0] at r; exact absurd r (by decide))
    obtain ⟨c, hc1, hc2⟩ : ∃ c : Nat, (mI v (169 * q + y) 9 + l2).toInt = (c : Int) ∧ c < 2000 := ⟨((mI v (169 * q + y) 9).toInt + l2.toInt).toNat, by rw [tI_add (by omega) (by omega)]; omega, by omega⟩
    have gc : gk c = mI v (169 * q + y) 5 := by
      obtain ⟨f1, f2, f3⟩ := (hg y y1).1 y2 hw
      have := f3 l2.toInt.toNat (by omega)
      have c9 := nat_cl f1
      have ec : (mI v (169 * q + y) 9 + l2).toInt = (mI v (169 * q + y) 9).toInt + l2.toInt := tI_add (by omega) (by omega)
      rw [show (mI v (169 * q + y) 9).toNatClampNeg + l2.toInt.toNat = c by omega] at this
      exact this
    rw [a15]
    refine ks_placed y2 (fun r => absurd r np) (fun _ => ?_)
    rw [if_pos rfl]
    refine pq_bc (pq_m (put_T hc1 hc2) (fun _ w hw2 => pq_some ?_))
    rw [hw2]
    unfold F_write B_write_0
    rw [if_neg (fun q => by have := Int32.le_iff_toInt_le.mp q; omega)]
    refine pp_wr (pp_some ⟨⟨⟨fun c' hc' => ?_, fun c' hc' hk => ?_⟩, hI⟩, fun _ _ => rfl, fun j hj => ?_, rfl, rfl, rfl, fun _ _ => rfl, fun j hj => ?_⟩)
    · rw [n_of hc1, q_cut]
      show (if c' = c then n_cut (mI v (169 * q + y) 5) l3 else cB v 235 c') = (if c' = c then n_cut (mI v (169 * q + y) 5) l3 else u.2.2.2 82 c')
      rw [hM1 c' hc']
    · show i32 (if c' = c then n_cut (mI v (169 * q + y) 5) l3 else cB v 235 c')
      by_cases z : c' = c
      · rw [if_pos z]
        rw [z, gc] at hk
        exact i32_cut z9 hk
      · rw [if_neg z]
        exact hM2 c' hc' hk
    · show (if j = 235 then _ else cB v j) = cB v j
      rw [if_neg hj]
    · show (if j = 82 then _ else u.2.2.2 j) = u.2.2.2 j
      rw [if_neg hj]
  · have h3 : mI v (169 * q + y) 6 = 3 := hw.resolve_left hn2
    have l20 : l2 = 0 := tI_eq.mpr (by rw [b1, show (1 : Int32).toInt = 1 from by decide] at y8; omega)
    have hn := nb_64 z9
    obtain ⟨c, hc1, hc2⟩ : ∃ c : Nat, (mI v (169 * q + y) 9).toInt = (c : Int) ∧ c + nb (mI v (169 * q + y) 5) ≤ 64 := ⟨(mI v (169 * q + y) 9).toInt.toNat, by omega, by omega⟩
    rw [if_neg hn2] at a15
    have hcl : (5000 + mI v (169 * q + y) 9).toInt = ((5000 + c : Nat) : Int) := by rw [tI_add (by omega) (by omega)]; omega
    have hcl2 : (5000 + mI v (169 * q + y) 9 + l2).toInt = ((5000 + c : Nat) : Int) := by rw [l20, tI_add (by omega) (by omega)]; omega
    rw [a15]
    refine ks_placed y2 (fun _ => ?_) (fun r => absurd (Or.inr h3) r)
    rw [if_neg (by decide)]
    refine pq_bc (pq_m (i_set hc1 z9 hc2) (fun _ w h6 => pq_some ?_))
    obtain ⟨⟨g1, g2, g3, g4⟩, g5⟩ := h6
    refine pp_m (i_write hcl2 z9 hc2) (fun _ x h5 => ?_)
    obtain ⟨⟨f1, f2, f3, f4⟩, f5⟩ := h5
    have hB : ∀ j, cB w j = cB v j := fun j => by
      show w.2.2.2.1 j = v.2.2.2.1 j
      rw [g4]
    refine ⟨⟨⟨fun c' hc' => ?_, fun c' hc' hk => ?_⟩, fun i hi => ?_⟩, g3, fun j _ => hB j, g1, by rw [g4], f1, f3, fun j _ => by rw [f4]⟩
    · rw [hB, f4]
      exact hM1 c' hc'
    · rw [hB]
      exact hM2 c' hc' hk
    · rw [g3 211 (by decide), g3 212 (by decide), g3 213 (by decide), g3 215 (by decide), g3 216 (by decide), g3 217 (by decide), g3 218 (by decide), f3 84 (by decide), f3 86 (by decide), f3 87 (by decide), g5, f5]
      obtain ⟨i1, ⟨i2, i3⟩, i4⟩ := hI i hi
      refine ⟨i1, ⟨?_, ?_⟩, i4⟩
      · rw [i2]
        exact (sb_lt _ _ _ (by omega)).symm
      · exact sb_rel _ _ (fun i hi => (hI i hi).2.1.2) i hi
/-- what a change of a place leaves -/
def FRp (v w : CSt) (u x : RSt) : Prop := (∀ j, j ≠ 214 → cA w j = cA v j) ∧ (∀ j, j ≠ 235 → cB w j = cB v j) ∧ w.1 = v.1 ∧ w.2.2.2.2 = v.2.2.2.2 ∧ (∀ j, j ≠ 9 → x.1 j = u.1 j) ∧ (∀ j, j ≠ 85 → x.2.2.1 j = u.2.2.1 j) ∧ (∀ j, j ≠ 82 → x.2.2.2 j = u.2.2.2 j)
theorem f9_rf {a : Int32} : ∀ j, j ≠ 9 → (sI u 9 a).1 j = u.1 j := fun j hj => by
  show (if j = 9 then a else u.1 j) = u.1 j
  rw [if_neg hj]
theorem hp_st : pp (F_hasPlace M l1 l2 u) (fun _ x => (∀ j, j ≠ 9 → x.1 j = u.1 j) ∧ x.2 = u.2) := by
  have b38 : ∀ z : RSt, ((∀ j, j ≠ 9 → z.1 j = u.1 j) ∧ z.2 = u.2) → pp (B_hasPlace_38 M z) (fun _ x => (∀ j, j ≠ 9 → x.1 j = u.1 j) ∧ x.2 = u.2) := by
    intro z hz
    unfold B_hasPlace_38
    exact pp_if (fun _ => pp_some hz) (fun _ => pp_some hz)
  have hv : pp (F_hasVariable M l1 u) (fun _ x => (∀ j, j ≠ 9 → x.1 j = u.1 j) ∧ x.2 = u.2) := by
    unfold F_hasVariable B_hasVariable_0 B_hasVariable_25
    exact pp_rd (pp_if (fun _ => pp_pu (pp_if (fun _ => pp_some ⟨f9_rf, rfl⟩) (fun _ => pp_some ⟨f9_rf, rfl⟩))) (fun _ => pp_pu (pp_if (fun _ => pp_some ⟨f9_rf, rfl⟩) (fun _ => pp_some ⟨f9_rf, rfl⟩))))
  unfold F_hasPlace B_hasPlace_0
  exact pp_bn (pp_m hv (fun r z hz => pp_if (fun _ => b38 z hz) (fun _ => pp_rd (pp_if (fun _ => pp_pu (b38 _ ⟨fun j hj => (f9_rf j hj).trans (hz.1 j hj), hz.2⟩)) (fun _ => b38 z hz)))))
/-- poke: what it leaves, memory and images alike -/
theorem poke_9 (h : TBM v u q s T) (hq : cR v 0 = q) (h55 : (u.1 55).toInt = (s : Int)) (hs : s < 2) (hg : GKf v q T gk) (hM : MEq v u gk) (hI : IMq v u) : pq (F_X11_poke N l1 l2 l3 v) (fun _ w => pp (F_poke M l1 l2 l3 u) (fun _ x => (MEq w x gk ∧ IMq w x) ∧ FRp v w u x)) := by
  unfold F_X11_poke B_X11_poke_0
  refine pq_bc (pq_m (hasP_T (M := M) h hq h55 hs) (fun r w hw => ?_))
  obtain ⟨e, hp⟩ := hw
  rw [e]
  unfold F_poke B_poke_0
  by_cases r0 : r = 0
  · rw [if_pos r0]
    refine pq_some (pp_bn (pp_m (pp_and hp (hp_st (M := M) (l1 := l1) (l2 := l2) (u := u))) (fun r' x hx => ?_)))
    obtain ⟨hx, hk1, hk2⟩ := hx
    rcases hx with ⟨-, a2, a3⟩ | ⟨a1, -⟩
    · rw [a2, if_pos rfl]
      refine pp_some ⟨⟨MEq_fr hM rfl (by rw [hk2]), fun i hi => by rw [hk2]; exact hI i hi⟩, fun _ _ => rfl, fun _ _ => rfl, rfl, rfl, hk1, fun j _ => by rw [hk2], fun j _ => by rw [hk2]⟩
    · rw [a1] at r0
      exact absurd r0 (by decide)
  · rw [if_neg r0]
    refine pq_sw (pp_bn (pp_m hp (fun r' x hx => ?_)))
    rcases hx with ⟨a1, -⟩ | ⟨-, a2, a3, y, k, hV, hn⟩
    · exact absurd a1 r0
    rw [a2, a3, if_neg (by decide)]
    refine pp_rd ?_
    have y6 := hV.2.2.2.2.2.1
    have y4 := hV.2.2.2.1
    have r12 : (sI u 9 0).2.2.1 12 (160 * ((sI u 9 0).1 55) + l1).toNatClampNeg = mI v (169 * q + y) 6 := by
      show u.2.2.1 12 (160 * u.1 55 + l1).toNatClampNeg = _
      rw [y6]
      obtain ⟨k', z1, z2, z3, z4, z5, -⟩ := hV.2.2.2.2.2.2.2.2.1
      have ek : k' = k := by omega
      rw [← ek]
      exact z5
    rw [r12]
    refine pp_sw (pq_ok (fun _ => ?_))
    rw [hq]
    refine pq_bc (pq_m (hn N) (fun r5 w5 h5 => pq_ok (fun _ => ?_)))
    rw [h5.1, h5.2]
    refine pq_if (fun z => pq_some ?_) (fun z => ?_)
    · rw [if_pos z]
      refine pp_pu ?_
      unfold B_poke_39
      rw [if_neg (show ¬ (sI (sI u 9 0) 9 2).1 9 ≤ 0 by show ¬ (2 : Int32) ≤ 0; decide)]
      exact pp_some ⟨⟨hM, hI⟩, fun _ _ => rfl, fun _ _ => rfl, rfl, rfl, fun j hj => (f9_rf j hj).trans (f9_rf j hj), fun _ _ => rfl, fun _ _ => rfl⟩
    · rw [if_neg z]
      unfold B_poke_39
      rw [if_pos (show (sI u 9 0).1 9 ≤ 0 by show (0 : Int32) ≤ 0; decide)]
      have i9 : 160 * ((sI u 9 0).1 55) + l1 = 160 * u.1 55 + l1 := rfl
      rw [i9]
      refine pq_sw (pp_rd (pp_rd ?_))
      rw [show (sI u 9 0).2.2.1 15 (160 * u.1 55 + l1).toNatClampNeg = (sI u 9 0).2.2.1 15 (160 * s + k) by rw [y6], show (sI u 9 0).2.2.1 10 (160 * u.1 55 + l1).toNatClampNeg = (sI u 9 0).2.2.1 10 (160 * s + k) by rw [y6]]
      have hch := chg_T (N := N) (M := M) (l3 := l3) (u := sI u 9 0) hV z hg hM hI
      refine pp_bn (pp_m (pp_sw hch) (fun r6 x6 h6 => ?_))
      refine pp_bn (pp_m no_st (fun r7 x7 h7 => pp_some ?_))
      refine pq_bc (pq_m h6 (fun r8 w8 h8 => pq_bc (pq_m num_st (fun r9 w9 h9 => pq_some ?_))))
      rw [h7, h9]
      obtain ⟨f1, f2, f3, f4, f5, f6, f7, f8⟩ := h8
      exact ⟨f1, f2, f3, f4, f5, fun j hj => by rw [f6]; exact f9_rf j hj, f7, f8⟩
/-- all but images and memory stays -/
theorem J9s_im (hj : J9s n v u q s T gk) (tb : TBM v u q s T) (hM : MEq w x gk) (hI : IMq w x) (hA : ∀ j, j ∈ [220, 221, 223, 224, 225] → cA w j = cA v j) (hB : ∀ j, j ∈ [222, 226] → cB w j = cB v j) (h1 : ∀ j, j ∈ qeI → cI w j = cI v j) (hm : mI w = mI v) (ht : ∀ m k, tI w m k = tI v m k) (x1 : ∀ j, j ∈ rfI → x.1 j = u.1 j) (xA_ : ∀ j, j ∈ [88, 99, 100, 101] → x.2.2.1 j = u.2.2.1 j) (xB_ : ∀ j, j ∈ [97, 102] → x.2.2.2 j = u.2.2.2 j) (hr : sso s u x) : J9s (n + 1) w x q s T gk := by
  obtain ⟨a1, a2, a3, a4, a5, a6⟩ := hj
  exact ⟨hM, TKq_fr a2 tb.2.2.2.2.2.2.1.2.2.2.2.2.2.2.1.2 (fun j k _ _ => ht _ k) hr (xA_ 88 (by decide)), LTq_fr a3 tb.2.1 (fun y k _ => by rw [hm]) (h1 9 (by decide)) (hB 222 (by decide)) (hA 220 (by decide)) (hA 221 (by decide)) (xB_ 97 (by decide)), hI, EVz_fr a5 (h1 10 (by decide)) (h1 11 (by decide)) (fun k hk => hA k (by simp only [List.mem_cons, List.not_mem_nil, or_false] at hk ⊢; omega)) (hB 226 (by decide)) (x1 103 (by decide)) (fun k hk => xA_ k (by simp only [List.mem_cons, List.not_mem_nil, or_false] at hk ⊢; omega)) (xB_ 102 (by decide)), CLq_fr a6 (h1 1 (by decide)) (h1 2 (by decide)) (x1 104 (by decide)) (x1 105 (by decide))⟩
theorem poke_J9s {y : Sum Nat Int64} {r : Int64} (tb : TBM v u q s T) (hq : cR v 0 = q) (h55 : (u.1 55).toInt = (s : Int)) (hs : s < 2) (hg : GKf v q T gk) (hj : J9s n v u q s T gk) (h9 : F_X11_poke N l1 l2 l3 v = some (y, w)) (h8 : F_poke M l1 l2 l3 u = some (r, x)) : J9s (n + 1) w x q s T gk := by
  obtain ⟨⟨p1, p2⟩, f1, f2, f3, f4, f5, f6, f7⟩ := poke_9 tb hq h55 hs hg hj.1 hj.2.2.2.1 _ _ h9 _ _ h8
  refine J9s_im hj tb p1 p2 (fun j hj => f1 j ?_) (fun j hj => f2 j ?_) (fun j _ => ?_) ?_ (fun m k => ?_) (fun j hj => f5 j ?_) (fun j hj => f6 j ?_) (fun j hj => f7 j ?_) (sso_all (ku_F_poke _ _ h8))
  · intro e; rw [e] at hj; exact absurd hj (by decide)
  · intro e; rw [e] at hj; exact absurd hj (by decide)
  · show w.1 j = v.1 j
    rw [f3]
  · show w.2.2.2.2.2.2.2.2.1 = v.2.2.2.2.2.2.2.2.1
    rw [f4]
  · show w.2.2.2.2.2.2.2.1 m k = v.2.2.2.2.2.2.2.1 m k
    rw [f4]
  · intro e; rw [e] at hj; exact absurd hj (by decide)
  · intro e; rw [e] at hj; exact absurd hj (by decide)
  · intro e; rw [e] at hj; exact absurd hj (by decide)
end N18a
/-! input, force, watchdog, look, clear. -/
/-- what input and force leave -/
def FRi (v w : CSt) (u x : RSt) : Prop := (∀ j, ¬ (211 ≤ j ∧ j ≤ 218) → cA w j = cA v j) ∧ w.1 = v.1 ∧ w.2.2.2 = v.2.2.2 ∧ (∀ j, j ≠ 9 → x.1 j = u.1 j) ∧ (∀ j, ¬ (84 ≤ j ∧ j ≤ 87) → x.2.2.1 j = u.2.2.1 j) ∧ x.2.2.2 = u.2.2.2
section N19a
variable {v w : CSt} {u x : RSt} {q s T N M n y k c : Nat} {l1 l2 l3 l4 a b : Int32} {gk : Nat → Int32} {z z2 : Int32}
theorem rin_c {l a b : Int32} : (r_in l a b = 0 ∧ ¬ (a.toInt ≤ l.toInt ∧ l.toInt ≤ b.toInt)) ∨ (¬ r_in l a b = 0 ∧ (a.toInt ≤ l.toInt ∧ l.toInt ≤ b.toInt)) := by
  by_cases h : r_in l a b = 0
  · refine Or.inl ⟨h, ?_⟩
    rcases rin_0.mp h with g | g
    · have := Int32.lt_iff_toInt_lt.mp g
      omega
    · have := Int32.lt_iff_toInt_lt.mp g
      omega
  · refine Or.inr ⟨h, ?_, ?_⟩
    · have : ¬ l < a := fun g => h (rin_0.mpr (Or.inl g))
      rw [Int32.lt_iff_toInt_lt] at this
      omega
    · have : ¬ b < l := fun g => h (rin_0.mpr (Or.inr g))
      rw [Int32.lt_iff_toInt_lt] at this
      omega
theorem y_hasB (ha : ¬ a = 0) : pp (F_hasByte M l1 a u) (fun r x => ((0 ≤ l1.toInt ∧ l1.toInt < 64) ∧ r = 1 ∧ x = sI u 9 0) ∨ (¬ (0 ≤ l1.toInt ∧ l1.toInt < 64) ∧ r = 0 ∧ x = sI u 9 a)) := by
  have e0 : (0 : Int32).toInt = 0 := by decide
  have e63 : (63 : Int32).toInt = 63 := by decide
  unfold F_hasByte B_hasByte_0 B_hasByte_16
  rcases rin_c (l := l1) (a := 0) (b := 63) with ⟨h1, h2⟩ | ⟨h1, h2⟩
  · rw [if_pos h1]
    refine pp_pu ?_
    rw [if_neg (show ¬ (sI u 9 a).1 9 = 0 from ha)]
    exact pp_some (Or.inr ⟨by omega, rfl, rfl⟩)
  · rw [if_neg h1]
    refine pp_pu ?_
    rw [if_pos (show (sI u 9 0).1 9 = 0 from rfl)]
    exact pp_some (Or.inl ⟨by omega, rfl, rfl⟩)
theorem IMq_in (h : IMq v u) (hc : c < 64) : IMq (xA v 211 c z) (sA u 84 c z) := by
  intro i hi
  obtain ⟨⟨i1, i2⟩, i3⟩ := h i hi
  refine ⟨⟨?_, ?_⟩, i3⟩
  · show (if i = c then z else cA v 211 i) = (if i = c then z else u.2.2.1 84 i)
    rw [i1]
  · show cA v 212 i = (if 64 + i = c then z else u.2.2.1 84 (64 + i))
    rw [if_neg (by omega)]
    exact i2
theorem input_9 (hI : IMq v u) : pq (F_X11_input N l1 l2 v) (fun _ w => pp (F_input M l1 l2 u) (fun _ x => IMq w x ∧ FRi v w u x)) := by
  have e0 : (0 : Int32).toInt = 0 := by decide
  have e64 : (64 : Int32).toInt = 64 := by decide
  refine pq_sw ?_
  unfold F_input B_input_0
  refine pp_bn (pp_m (y_hasB (by decide)) (fun r x hx => ?_))
  unfold F_X11_input B_X11_input_0
  rcases hx with ⟨h1, h2, h3⟩ | ⟨h1, h2, h3⟩
  · rw [h2, h3, if_neg (by decide), if_neg (fun q => by have := Int32.lt_iff_toInt_lt.mp q; omega), if_pos (Int32.lt_iff_toInt_lt.mpr (by omega))]
    refine pp_wr (pp_some (pq_ix (fun _ => pq_wc (pq_some ⟨?_, fun j hj => ?_, rfl, rfl, f9_rf, fun j hj => ?_, rfl⟩))))
    · exact IMq_in (u := sI u 9 0) hI (by have : l1.toNatClampNeg = l1.toInt.toNat := rfl; omega)
    · show (if j = 211 then _ else cA v j) = cA v j
      rw [if_neg (by omega)]
    · show (if j = 84 then _ else u.2.2.1 j) = u.2.2.1 j
      rw [if_neg (by omega)]
  · rw [h2, h3, if_pos rfl]
    have fin : IMq v (sI u 9 1) ∧ FRi v v u (sI u 9 1) := ⟨hI, fun _ _ => rfl, rfl, rfl, f9_rf, fun _ _ => rfl, rfl⟩
    refine pp_some (pq_if (fun _ => pq_some fin) (fun q => ?_))
    rw [if_neg (fun q2 => h1 ⟨by rw [Int32.lt_iff_toInt_lt] at q; omega, by have := Int32.lt_iff_toInt_lt.mp q2; omega⟩)]
    exact pq_some fin
theorem IMq_fi (h : IMq v u) (hc : c < 64) : IMq (xA (xA v 215 c z) 217 c z2) (sA (sA u 86 c z) 87 c z2) := by
  intro i hi
  obtain ⟨i1, i2, ⟨i3, i4⟩, i5, i6⟩ := h i hi
  refine ⟨i1, i2, ⟨?_, ?_⟩, ?_, ?_⟩
  · show (if i = c then z else cA v 215 i) = (if i = c then z else u.2.2.1 86 i)
    rw [i3]
  · show cA v 216 i = (if 64 + i = c then z else u.2.2.1 86 (64 + i))
    rw [if_neg (by omega)]
    exact i4
  · show (if i = c then z2 else cA v 217 i) = (if i = c then z2 else u.2.2.1 87 i)
    rw [i5]
  · show cA v 218 i = (if 64 + i = c then z2 else u.2.2.1 87 (64 + i))
    rw [if_neg (by omega)]
    exact i6
theorem IMq_fo (h : IMq v u) (hc : c < 64) : IMq (xA (xA v 216 c z) 218 c z2) (sA (sA u 86 (64 + c) z) 87 (64 + c) z2) := by
  intro i hi
  obtain ⟨i1, i2, ⟨i3, i4⟩, i5, i6⟩ := h i hi
  refine ⟨i1, i2, ⟨?_, ?_⟩, ?_, ?_⟩
  · show cA v 215 i = (if i = 64 + c then z else u.2.2.1 86 i)
    rw [if_neg (by omega)]
    exact i3
  · show (if i = c then z else cA v 216 i) = (if 64 + i = 64 + c then z else u.2.2.1 86 (64 + i))
    by_cases e : i = c
    · rw [if_pos e, if_pos (by omega)]
    · rw [if_neg e, if_neg (by omega)]
      exact i4
  · show cA v 217 i = (if i = 64 + c then z2 else u.2.2.1 87 i)
    rw [if_neg (by omega)]
    exact i5
  · show (if i = c then z2 else cA v 218 i) = (if 64 + i = 64 + c then z2 else u.2.2.1 87 (64 + i))
    by_cases e : i = c
    · rw [if_pos e, if_pos (by omega)]
    · rw [if_neg e, if_neg (by omega)]
      exact i6
theorem force_9 (hI : IMq v u) : pq (F_X11_force N l1 l2 l3 l4 v) (fun _ w => pp (F_force M l1 l2 l3 l4 u) (fun _ x => IMq w x ∧ FRi v w u x)) := by
  have e0 : (0 : Int32).toInt = 0 := by decide
  have e64 : (64 : Int32).toInt = 64 := by decide
  refine pq_sw ?_
  unfold F_force B_force_0
  refine pp_bn (pp_m (y_hasB (by decide)) (fun r x hx => ?_))
  unfold F_X11_force B_X11_force_0
  rcases hx with ⟨h1, h2, h3⟩ | ⟨h1, h2, h3⟩
  · have nc : l2.toNatClampNeg = l2.toInt.toNat := rfl
    have n64 : (64 + l2).toNatClampNeg = 64 + l2.toNatClampNeg := n_of (by rw [tI_add (by omega) (by omega)]; omega)
    rw [h2, h3, if_neg (show ¬ (1 : Int32) = 0 by decide), if_neg (show ¬ l2 < 0 from fun q => by have := Int32.lt_iff_toInt_lt.mp q; omega), if_pos (show l2 < 64 from Int32.lt_iff_toInt_lt.mpr (by omega))]
    unfold B_force_22 B_X11_force_36 B_X11_force_62
    by_cases c0 : l1 = 0
    · rw [if_pos c0, if_pos c0]
      refine pp_wr (pp_wr (pp_some (pq_ix (fun _ => pq_wc ?_))))
      rw [if_pos c0]
      refine pq_ix (fun _ => pq_wc (pq_some ⟨IMq_fi (u := sI u 9 0) hI (by omega), fun j hj => ?_, rfl, rfl, f9_rf, fun j hj => ?_, rfl⟩))
      · show (if j = 217 then _ else (if j = 215 then _ else cA v j)) = cA v j
        rw [if_neg (by omega), if_neg (by omega)]
      · show (if j = 87 then _ else (if j = 86 then _ else u.2.2.1 j)) = u.2.2.1 j
        rw [if_neg (by omega), if_neg (by omega)]
    · rw [if_neg c0, if_neg c0]
      refine pp_wr (pp_wr (pp_some (pq_ix (fun _ => pq_wc ?_))))
      rw [if_neg c0, n64]
      refine pq_ix (fun _ => pq_wc (pq_some ⟨IMq_fo (u := sI u 9 0) hI (by omega), fun j hj => ?_, rfl, rfl, f9_rf, fun j hj => ?_, rfl⟩))
      · show (if j = 218 then _ else (if j = 216 then _ else cA v j)) = cA v j
        rw [if_neg (by omega), if_neg (by omega)]
      · show (if j = 87 then _ else (if j = 86 then _ else u.2.2.1 j)) = u.2.2.1 j
        rw [if_neg (by omega), if_neg (by omega)]
  · rw [h2, h3, if_pos rfl]
    have fin : IMq v (sI u 9 1) ∧ FRi v v u (sI u 9 1) := ⟨hI, fun _ _ => rfl, rfl, rfl, f9_rf, fun _ _ => rfl, rfl⟩
    refine pp_some (pq_if (fun _ => pq_some fin) (fun q => ?_))
    rw [if_neg (fun q2 => h1 ⟨by rw [Int32.lt_iff_toInt_lt] at q; omega, by have := Int32.lt_iff_toInt_lt.mp q2; omega⟩)]
    exact pq_some fin
theorem J9s_fi (tb : TBM v u q s T) (hj : J9s n v u q s T gk) (hI : IMq w x) (hF : FRi v w u x) (hr : sso s u x) : J9s (n + 1) w x q s T gk := by
  obtain ⟨f1, f2, f3, f4, f5, f6⟩ := hF
  have hB : ∀ j, cB w j = cB v j := fun j => by
    show w.2.2.2.1 j = v.2.2.2.1 j
    rw [f3]
  refine J9s_im hj tb (MEq_fr hj.1 (hB 235) (by rw [f6])) hI (fun j hj => f1 j ?_) (fun j _ => hB j) (fun j _ => ?_) ?_ (fun m k => ?_) (fun j hj => f4 j ?_) (fun j hj => f5 j ?_) (fun j _ => by rw [f6]) hr
  · simp only [List.mem_cons, List.not_mem_nil, or_false] at hj
    omega
  · show w.1 j = v.1 j
    rw [f2]
  · show w.2.2.2.2.2.2.2.2.1 = v.2.2.2.2.2.2.2.2.1
    rw [f3]
  · show w.2.2.2.2.2.2.2.1 m k = v.2.2.2.2.2.2.2.1 m k
    rw [f3]
  · intro e; rw [e] at hj; exact absurd hj (by decide)
  · simp only [List.mem_cons, List.not_mem_nil, or_false] at hj
    omega
/-- watchdog -/
theorem dog_9 : pq (F_X11_watchdog N l1 v) (fun _ w => pp (F_watchdog M l1 u) (fun _ x => (w = v ∨ (w = xI v 2 l1 ∧ x.1 105 = l1 ∧ 1 ≤ l1.toInt ∧ l1.toInt ≤ 5000)) ∧ (w = v → x.1 105 = u.1 105 ∨ (x.1 105 = l1 ∧ l1 = cI v 2)) ∧ (∀ j, j ≠ 9 → j ≠ 105 → x.1 j = u.1 j) ∧ x.2 = u.2)) := by
  have e1 : (1 : Int32).toInt = 1 := by decide
  have e5 : (5000 : Int32).toInt = 5000 := by decide
  unfold F_X11_watchdog B_X11_watchdog_0 F_watchdog B_watchdog_0 B_watchdog_17
  rcases rin_c (l := l1) (a := 1) (b := 5000) with ⟨h1, h2⟩ | ⟨h1, h2⟩
  · rw [if_pos h1]
    have fin : pp (pu (sI u 9 1) fun u_1 => if (u_1.1 9) = (0 : Int32) then (pu (sI u_1 105 l1) fun u_3 => some ((0 : Int32), u_3)) else (some (0, u_1))) (fun _ x => (v = v ∨ (v = xI v 2 l1 ∧ x.1 105 = l1 ∧ 1 ≤ l1.toInt ∧ l1.toInt ≤ 5000)) ∧ (v = v → x.1 105 = u.1 105 ∨ (x.1 105 = l1 ∧ l1 = cI v 2)) ∧ (∀ j, j ≠ 9 → j ≠ 105 → x.1 j = u.1 j) ∧ x.2 = u.2) := by
      refine pp_pu ?_
      rw [if_neg (show ¬ (sI u 9 1).1 9 = 0 by show ¬ (1 : Int32) = 0; decide)]
      exact pp_some ⟨Or.inl rfl, fun _ => Or.inl rfl, fun j hj _ => f9_rf j hj, rfl⟩
    refine pq_if (fun _ => pq_some fin) (fun q => ?_)
    rw [if_neg (fun q2 => h2 ⟨by rw [Int32.lt_iff_toInt_lt] at q; omega, by have := Int32.le_iff_toInt_le.mp q2; omega⟩)]
    exact pq_some fin
  · rw [if_neg h1, if_neg (fun q => by have := Int32.lt_iff_toInt_lt.mp q; omega), if_pos (Int32.le_iff_toInt_le.mpr (by omega))]
    refine pq_pc (pq_some (pp_pu ?_))
    rw [if_pos (show (sI u 9 0).1 9 = 0 from rfl)]
    refine pp_pu (pp_some ⟨Or.inr ⟨rfl, rfl, by omega, by omega⟩, fun e => Or.inr ⟨rfl, ?_⟩, fun j h1 h2 => ?_, rfl⟩)
    · have := congrArg (fun a : CSt => cI a 2) e
      exact this
    · show (if j = 105 then l1 else (if j = 9 then 0 else u.1 j)) = u.1 j
      rw [if_neg h2, if_neg h1]
theorem dog_J9s {y : Sum Nat Int32} {r : Int32} (tb : TBM v u q s T) (hj : J9s n v u q s T gk) (h9 : F_X11_watchdog N l1 v = some (y, w)) (h8 : F_watchdog M l1 u = some (r, x)) (hr : sso s u x) : J9s (n + 1) w x q s T gk := by
  obtain ⟨g1, g2, g3, g4⟩ := dog_9 _ _ h9 _ _ h8
  obtain ⟨a1, a2, a3, a4, a5, ⟨⟨c1, c2, c3⟩, c4, c5⟩⟩ := hj
  have xr : x.2.2.1 = u.2.2.1 ∧ x.2.2.2 = u.2.2.2 := by rw [g4]; exact ⟨rfl, rfl⟩
  have key : ∀ b : Int32, w = xI v 2 b → x.1 105 = b → 1 ≤ b.toInt → b.toInt ≤ 5000 → J9s (n + 1) w x q s T gk := by
    intro b ew e105 b1 b2
    have ci : ∀ j, j ≠ 2 → cI w j = cI v j := fun j hj => by
      rw [ew]
      show (if j = 2 then b else cI v j) = cI v j
      rw [if_neg hj]
    have cr : w.2 = v.2 := by rw [ew]; rfl
    have cAe : cA w = cA v := by show w.2.2.1 = v.2.2.1; rw [cr]
    have cBe : cB w = cB v := by show w.2.2.2.1 = v.2.2.2.1; rw [cr]
    refine ⟨MEq_fr a1 (by rw [cBe]) (by rw [xr.2]), TKq_fr a2 tb.2.2.2.2.2.2.1.2.2.2.2.2.2.2.1.2 (fun j k _ _ => ?_) hr (by rw [xr.1]), LTq_fr a3 tb.2.1 (fun y k _ => ?_) (ci 9 (by decide)) (by rw [cBe]) (by rw [cAe]) (by rw [cAe]) (by rw [xr.2]), fun i hi => by rw [cAe, xr.1]; exact a4 i hi, EVz_fr a5 (ci 10 (by decide)) (ci 11 (by decide)) (fun k _ => by rw [cAe]) (by rw [cBe]) (g3 103 (by decide) (by decide)) (fun k _ => by rw [xr.1]) (by rw [xr.2]), ⟨⟨by rw [ci 1 (by decide), g3 104 (by decide) (by decide)]; exact c1, by rw [ci 1 (by decide)]; exact c2, by rw [ci 1 (by decide)]; omega⟩, ?_, ?_, ?_⟩⟩
    · show w.2.2.2.2.2.2.2.1 _ _ = v.2.2.2.2.2.2.2.1 _ _
      rw [cr]
    · show w.2.2.2.2.2.2.2.2.1 _ _ = v.2.2.2.2.2.2.2.2.1 _ _
      rw [cr]
    · rw [ew, e105]
      rfl
    · rw [ew]
      exact b1
    · rw [ew]
      exact b2
  rcases g1 with e | ⟨e, e2, e3, e4⟩
  · have hx : x.1 105 = cI v 2 := by
      rcases g2 e with h | ⟨h, h'⟩
      · rw [h]; exact c4.symm
      · rw [h]; exact h'
    refine key (cI v 2) ?_ hx c5.1 c5.2
    rw [e]
    refine Prod.ext (funext (fun j => ?_)) rfl
    show v.1 j = (if j = 2 then v.1 2 else v.1 j)
    by_cases z : j = 2
    · rw [if_pos z, z]
    · rw [if_neg z]
  · exact key l1 e e2 e3 e4
/-- look -/
theorem look_T (hI : IMq v u) : pq (F_X11_look N l1 l2 v) (fun y w => pp (F_look M l1 l2 u) (fun r x => (y = .inl 1 ∧ x.1 9 = 1) ∨ (y = .inl 2 ∧ x.1 9 = 2) ∨ (y = .inr r ∧ x.1 9 = 0))) := by
  have e0 : (0 : Int32).toInt = 0 := by decide
  have e7 : (7 : Int32).toInt = 7 := by decide
  have e64 : (64 : Int32).toInt = 64 := by decide
  unfold F_X11_look B_X11_look_0 F_look B_look_0 B_look_16
  rcases rin_c (l := l1) (a := 0) (b := 7) with ⟨h1, h2⟩ | ⟨h1, h2⟩
  · rw [if_pos h1]
    have fin : ∀ y : Sum Nat Int32, y = .inl 1 → pp (pu (sI u 9 1) fun u_12 => if (0 : Int32) < (u_12.1 9) then (some (0, u_12)) else (bn (F_hasByte M l2 2 u_12) fun r_15 u_14 => if r_15 = (0 : Int32) then (some (0, u_14)) else (if (l1 - l1 / 2 * 2) = (0 : Int32) then (B_look_51 M l1 l2 u_14) else (B_look_51 M l1 (64 + l2) u_14)))) (fun r x => (y = .inl 1 ∧ x.1 9 = 1) ∨ (y = .inl 2 ∧ x.1 9 = 2) ∨ (y = .inr r ∧ x.1 9 = 0)) := by
      intro y hy
      refine pp_pu ?_
      rw [if_pos (show (0 : Int32) < (sI u 9 1).1 9 by show (0 : Int32) < 1; decide)]
      exact pp_some (Or.inl ⟨hy, rfl⟩)
    refine pq_if (fun _ => pq_some (fin _ rfl)) (fun q => ?_)
    rw [if_neg (fun q2 => h2 ⟨by rw [Int32.lt_iff_toInt_lt] at q; omega, by have := Int32.le_iff_toInt_le.mp q2; omega⟩)]
    exact pq_some (fin _ rfl)
  · rw [if_neg h1, if_neg (fun q => by have := Int32.lt_iff_toInt_lt.mp q; omega), if_pos (Int32.le_iff_toInt_le.mpr (by omega))]
    refine pq_sw (pp_pu ?_)
    rw [if_neg (show ¬ (0 : Int32) < (sI u 9 0).1 9 by show ¬ (0 : Int32) < 0; decide)]
    refine pp_bn (pp_m (y_hasB (by decide)) (fun r x hx => ?_))
    rcases hx with ⟨g1, g2, g3⟩ | ⟨g1, g2, g3⟩
    · rw [g2, g3, if_neg (show ¬ (1 : Int32) = 0 by decide), if_neg (show ¬ l2 < 0 from fun q => by have := Int32.lt_iff_toInt_lt.mp q; omega), if_pos (show l2 < 64 from Int32.lt_iff_toInt_lt.mpr (by omega))]
      have nc : l2.toNatClampNeg = l2.toInt.toNat := rfl
      have n64 : (64 + l2).toNatClampNeg = 64 + l2.toNatClampNeg := n_of (by rw [tI_add (by omega) (by omega)]; omega)
      obtain ⟨⟨i1, i2⟩, ⟨i3, i4⟩, ⟨i5, i6⟩, i7, i8⟩ := hI l2.toNatClampNeg (by omega)
      have hl : l1 = 0 ∨ l1 = 1 ∨ l1 = 2 ∨ l1 = 3 ∨ l1 = 4 ∨ l1 = 5 ∨ l1 = 6 ∨ l1 = 7 := by
        simp only [tI_eq]
        have a1 : (1 : Int32).toInt = 1 := by decide
        have a2 : (2 : Int32).toInt = 2 := by decide
        have a3 : (3 : Int32).toInt = 3 := by decide
        have a4 : (4 : Int32).toInt = 4 := by decide
        have a5 : (5 : Int32).toInt = 5 := by decide
        have a6 : (6 : Int32).toInt = 6 := by decide
        omega
      unfold B_look_51
      rcases hl with rfl | rfl | rfl | rfl | rfl | rfl | rfl | rfl
      · rw [if_pos (by decide), if_neg (by decide)]
        exact pp_rd (pp_some (pq_ix (fun _ => pq_rd (pq_some (Or.inr (Or.inr ⟨congrArg Sum.inr i1, rfl⟩))))))
      · rw [if_neg (by decide), if_neg (by decide)]
        refine pp_rd (pp_some (pq_ix (fun _ => pq_rd (pq_some (Or.inr (Or.inr ⟨congrArg Sum.inr ?_, rfl⟩))))))
        rw [n64]
        exact i2
      · rw [if_pos (by decide), if_pos (by decide), if_neg (by decide)]
        exact pp_rd (pp_some (pq_ix (fun _ => pq_rd (pq_some (Or.inr (Or.inr ⟨congrArg Sum.inr i3, rfl⟩))))))
      · rw [if_neg (by decide), if_pos (by decide), if_neg (by decide)]
        refine pp_rd (pp_some (pq_ix (fun _ => pq_rd (pq_some (Or.inr (Or.inr ⟨congrArg Sum.inr ?_, rfl⟩))))))
        rw [n64]
        exact i4
      · rw [if_pos (by decide), if_pos (by decide), if_pos (by decide), if_neg (by decide)]
        exact pp_rd (pp_some (pq_ix (fun _ => pq_rd (pq_some (Or.inr (Or.inr ⟨congrArg Sum.inr i5, rfl⟩))))))
      · rw [if_neg (by decide), if_pos (by decide), if_pos (by decide), if_neg (by decide)]
        refine pp_rd (pp_some (pq_ix (fun _ => pq_rd (pq_some (Or.inr (Or.inr ⟨congrArg Sum.inr ?_, rfl⟩))))))
        rw [n64]
        exact i6
      · rw [if_pos (by decide), if_pos (by decide), if_pos (by decide), if_pos (by decide)]
        exact pp_rd (pp_some (pq_ix (fun _ => pq_rd (pq_some (Or.inr (Or.inr ⟨congrArg Sum.inr i7, rfl⟩))))))
      · rw [if_neg (by decide), if_pos (by decide), if_pos (by decide), if_pos (by decide)]
        refine pp_rd (pp_some (pq_ix (fun _ => pq_rd (pq_some (Or.inr (Or.inr ⟨congrArg Sum.inr ?_, rfl⟩))))))
        rw [n64]
        exact i8
    · rw [g2, g3, if_pos rfl]
      refine pp_some (pq_if (fun _ => pq_some (Or.inr (Or.inl ⟨rfl, rfl⟩))) (fun q => ?_))
      rw [if_neg (fun q2 => g1 ⟨by rw [Int32.lt_iff_toInt_lt] at q; omega, by have := Int32.lt_iff_toInt_lt.mp q2; omega⟩)]
      exact pq_some (Or.inr (Or.inl ⟨rfl, rfl⟩))
end N19a
/-! clear, event, count. -/
section N20a
variable {v w : CSt} {u x : RSt} {q s T N M n y k c : Nat} {l1 l2 l3 l4 a b : Int32} {gk : Nat → Int32} {z z2 : Int32}
theorem k_hasG {so : Int32} : pq (F_X6_has N q so l1 v) (fun r w => w = v ∧ (((0 ≤ l1.toInt ∧ l1.toInt < (pA v q 9 so.toNatClampNeg).toInt) ∧ r = 1) ∨ (¬ (0 ≤ l1.toInt ∧ l1.toInt < (pA v q 9 so.toNatClampNeg).toInt) ∧ r = 0))) := by
  have e0 : (0 : Int32).toInt = 0 := by decide
  unfold F_X6_has B_X6_has_0
  refine pq_if (fun c => pq_some ⟨rfl, Or.inr ⟨fun z => ?_, rfl⟩⟩) (fun c => pq_rd (pq_if (fun d => pq_some ⟨rfl, Or.inr ⟨fun z => ?_, rfl⟩⟩) (fun d => pq_some ⟨rfl, Or.inl ⟨⟨?_, ?_⟩, rfl⟩⟩)))
  · have := Int32.lt_iff_toInt_lt.mp c
    omega
  · have := Int32.le_iff_toInt_le.mp d
    omega
  · exact Int.not_lt.mp (fun z => c (Int32.lt_iff_toInt_lt.mpr (by rw [e0]; exact z)))
  · exact Int.not_le.mp (fun z => d (Int32.le_iff_toInt_le.mpr z))
theorem k_nthG {so : Int32} {o : Nat} (h : TBM v u q s T) (ho : o ≤ 4) (hso : so.toInt = (o : Int)) (hl : 0 ≤ l1.toInt ∧ l1.toInt < (pA v q 9 o).toInt) : ∃ y, y < T ∧ mI v (169 * q + y) 2 = so ∧ (mI v (169 * q + y) 4).toInt = l1.toInt ∧ pq (F_X6_nth N q so l1 v) (fun r w => w = v ∧ r = 169 * q + y) := by
  have e0 : (0 : Int32).toInt = 0 := by decide
  obtain ⟨t1, t2, t3, t4, t5, ⟨t6, t6'⟩, t7, -⟩ := h
  obtain ⟨y, y1, y2, y3, y4⟩ := t6' o ho l1.toInt.toNat (by omega)
  refine ⟨y, y1, tI_eq.mpr (by rw [y3, hso]), by rw [y4]; omega, ?_⟩
  have no : so.toNatClampNeg = o := n_of hso
  unfold F_X6_nth B_X6_nth_0
  refine pq_bc (pq_m k_hasG (fun r w hw => ?_))
  obtain ⟨e, hr⟩ := hw
  rw [e]
  rw [no] at hr
  rcases hr with ⟨-, hr⟩ | ⟨n, -⟩
  · rw [hr, if_neg (by decide)]
    refine pq_ix (fun _ => pq_rd ?_)
    rw [no]
    have ey : (pA v q (4 + o) l1.toNatClampNeg).toInt = (y : Int) := y2
    refine pq_bc (pq_m (k2_name ey t1 y1) (fun r w hw => pq_ok (fun _ => pq_some ⟨hw.2, hw.1⟩)))
  · exact absurd hl n
theorem y_hasT (h55 : (u.1 55).toInt = (s : Int)) (h0 : 0 ≤ (u.2.2.1 48 s).toInt) (h1 : (u.2.2.1 48 s).toInt ≤ 1000) : pp (F_hasTask N l1 u) (fun r x => ((0 ≤ l1.toInt ∧ l1.toInt < (u.2.2.1 48 s).toInt) ∧ r = 1 ∧ x = sI u 9 0) ∨ (¬ (0 ≤ l1.toInt ∧ l1.toInt < (u.2.2.1 48 s).toInt) ∧ r = 0 ∧ x = sI u 9 1)) := by
  have n55 : (u.1 55).toNatClampNeg = s := n_of h55
  unfold F_hasTask B_hasTask_0 B_hasTask_25
  refine pp_rd ?_
  rw [n55]
  rcases rin0 (l := l1) h0 h1 with ⟨e, n⟩ | ⟨e, n⟩
  · rw [if_pos e]
    refine pp_pu ?_
    rw [if_neg (show ¬ (sI u 9 1).1 9 = 0 by show ¬ (1 : Int32) = 0; decide)]
    exact pp_some (Or.inr ⟨n, rfl, rfl⟩)
  · rw [if_neg (by rw [e]; decide)]
    refine pp_pu ?_
    rw [if_pos (show (sI u 9 0).1 9 = 0 from rfl)]
    exact pp_some (Or.inl ⟨n, rfl, rfl⟩)
/-- what clear does -/
def CLr (v w : CSt) (u x : RSt) (q : Nat) : Prop := (w = v ∧ x.2 = u.2 ∧ ∀ j, j ≠ 9 → x.1 j = u.1 j) ∨ ∃ k, w = xtI v (8 * q + k) 3 0 ∧ x = sA (sI u 9 0) 88 k 0
theorem clear_T (h : TBM v u q s T) (hq : cR v 0 = q) (h55 : (u.1 55).toInt = (s : Int)) (hk : TKq v u q s) : pq (F_X11_clear N l1 v) (fun y w => pp (F_clear M l1 u) (fun r x => ((y = .inl 3 ∧ x.1 9 = 1) ∨ (y = .inr r ∧ x.1 9 = 0)) ∧ CLr v w u x q)) := by
  have c := h.2.2.2.2.2.2.1
  have c2 : pA v q 9 2 = u.2.2.1 48 s := c.2.2.1
  have c8 := c.2.2.2.2.2.2.2.1
  unfold F_X11_clear B_X11_clear_0
  refine pq_ok (fun _ => pq_bc (pq_m k_hasG (fun r w hw => ?_)))
  obtain ⟨e, hr⟩ := hw
  rw [e]
  rw [hq] at hr
  have hr : ((0 ≤ l1.toInt ∧ l1.toInt < (pA v q 9 2).toInt) ∧ r = 1) ∨ (¬ (0 ≤ l1.toInt ∧ l1.toInt < (pA v q 9 2).toInt) ∧ r = 0) := hr
  rw [c2] at hr
  unfold F_clear B_clear_0
  rcases hr with ⟨h1, hr⟩ | ⟨h1, hr⟩
  · rw [hr, if_neg (by decide), hq]
    have nl : l1.toNatClampNeg = l1.toInt.toNat := rfl
    obtain ⟨-, -, -, -, t3⟩ := hk l1.toNatClampNeg (by omega)
    refine pq_ok (fun _ => pq_ix (fun _ => pq_ix (fun _ => pq_pc (pq_zr (pq_some (pp_bn (pp_m (y_hasT h55 c8.1 (by omega)) (fun r' x hx => ?_))))))))
    rcases hx with ⟨-, h2, h3⟩ | ⟨h2, -⟩
    · rw [h2, h3, if_neg (by decide)]
      refine pp_rd (pp_wr (pp_zr (pp_some ⟨Or.inr ⟨congrArg Sum.inr t3, rfl⟩, Or.inr ⟨l1.toNatClampNeg, rfl, ?_⟩⟩)))
      rw [vn_0]
    · exact absurd h1 h2
  · rw [hr, if_pos rfl]
    refine pq_some (pp_bn (pp_m (y_hasT h55 c8.1 (by omega)) (fun r' x hx => ?_)))
    rcases hx with ⟨h2, -⟩ | ⟨-, h2, h3⟩
    · exact absurd h2 h1
    · rw [h2, h3, if_pos rfl]
      exact pp_some ⟨Or.inl ⟨rfl, rfl⟩, Or.inl ⟨rfl, rfl, fun j hj => f9_rf j hj⟩⟩
theorem clear_J9s {y : Sum Nat Int32} {r : Int32} (tb : TBM v u q s T) (hq : cR v 0 = q) (h55 : (u.1 55).toInt = (s : Int)) (hj : J9s n v u q s T gk) (h9 : F_X11_clear N l1 v = some (y, w)) (h8 : F_clear M l1 u = some (r, x)) (hr : sso s u x) : J9s (n + 1) w x q s T gk := by
  obtain ⟨-, hC⟩ := clear_T tb hq h55 hj.2.1 _ _ h9 _ _ h8
  obtain ⟨a1, a2, a3, a4, a5, a6⟩ := hj
  have t8 := tb.2.2.2.2.2.2.1.2.2.2.2.2.2.2.1.2
  rcases hC with ⟨e1, e2, e3⟩ | ⟨k, e1, e2⟩
  · have xr : x.2.2.1 = u.2.2.1 ∧ x.2.2.2 = u.2.2.2 := by rw [e2]; exact ⟨rfl, rfl⟩
    rw [e1]
    exact ⟨MEq_fr a1 rfl (by rw [xr.2]), TKq_fr a2 t8 (fun _ _ _ _ => rfl) hr (by rw [xr.1]), LTq_fr a3 tb.2.1 (fun _ _ _ => rfl) rfl rfl rfl rfl (by rw [xr.2]), fun i hi => by rw [xr.1]; exact a4 i hi, EVz_fr a5 rfl rfl (fun _ _ => rfl) rfl (e3 103 (by decide)) (fun k _ => by rw [xr.1]) (by rw [xr.2]), CLq_fr a6 rfl rfl (e3 104 (by decide)) (e3 105 (by decide))⟩
  · rw [e1, e2]
    refine ⟨a1, fun j hj => ?_, a3, a4, a5, CLq_fr a6 rfl rfl rfl rfl⟩
    obtain ⟨b1, b2, b3, b4, b5⟩ := a2 j hj
    have ne : ∀ i, i ≠ 3 → tI (xtI v (8 * q + k) 3 0) (8 * q + j) i = tI v (8 * q + j) i := fun i hi => by
      show (if 8 * q + j = 8 * q + k then (if i = 3 then 0 else tI v (8 * q + j) i) else tI v (8 * q + j) i) = _
      rw [if_neg hi, ite_self]
    rw [ne 0 (by decide), ne 1 (by decide)]
    refine ⟨b1, b2, b3, b4, ?_⟩
    show (if 8 * q + j = 8 * q + k then (if 3 = 3 then 0 else tI v (8 * q + j) 3) else tI v (8 * q + j) 3) = (if j = k then 0 else u.2.2.1 88 j)
    by_cases z : j = k
    · rw [if_pos (by omega), if_pos rfl, if_pos z]
    · rw [if_neg (by omega), if_neg z]
      exact b5
/-- the k-th latest change -/
theorem mod_100 : ∀ m : Fin 200, F_J9_floorMod_7cf53 0 (Int32.ofInt ((m.val : Int) - 100)) 100 = some (Int32.ofNat (m.val % 100)) := by decide +kernel
theorem event_T (hE : EVz v u) : pq (F_X11_event N l1 l2 v) (fun y w => pp (F_event M l1 l2 u) (fun r x => (y = .inl 3 ∧ x.1 9 = 1) ∨ (y = .inl 1 ∧ x.1 9 = 2) ∨ (y = .inr r ∧ x.1 9 = 0))) := by
  have e0 : (0 : Int32).toInt = 0 := by decide
  have e1 : (1 : Int32).toInt = 1 := by decide
  have e3 : (3 : Int32).toInt = 3 := by decide
  obtain ⟨h10, ⟨h10a, h10b⟩, ⟨h11a, h11b⟩, hk⟩ := hE
  have s1 : (u.1 103 - 1).toInt = (cI v 10).toInt - 1 := by rw [← h10, tI_sub (by omega) (by omega), e1]
  have bad : ∀ (y : Sum Nat Int64) (i : Int32), ((y = .inl 3 ∧ i = 1) ∨ (y = .inl 1 ∧ i = 2)) → pp (B_event_33 M l1 l2 i u) (fun r x => (y = .inl 3 ∧ x.1 9 = 1) ∨ (y = .inl 1 ∧ x.1 9 = 2) ∨ (y = .inr r ∧ x.1 9 = 0)) := by
    intro y i hi
    unfold B_event_33
    refine pp_pu ?_
    rcases hi with ⟨a1, a2⟩ | ⟨a1, a2⟩
    · rw [a2, if_neg (show ¬ (sI u 9 1).1 9 ≤ 0 by show ¬ (1 : Int32) ≤ 0; decide)]
      exact pp_some (Or.inl ⟨a1, rfl⟩)
    · rw [a2, if_neg (show ¬ (sI u 9 2).1 9 ≤ 0 by show ¬ (2 : Int32) ≤ 0; decide)]
      exact pp_some (Or.inr (Or.inl ⟨a1, rfl⟩))
  unfold F_X11_event B_X11_event_0 F_event B_event_0
  rcases rin_c (l := l1) (a := 0) (b := u.1 103 - 1) with ⟨h1, h2⟩ | ⟨h1, h2⟩
  · rw [if_pos h1]
    refine pq_if (fun _ => pq_some (bad _ 1 (Or.inl ⟨rfl, rfl⟩))) (fun q => ?_)
    rw [if_neg (fun q2 => h2 ⟨by rw [Int32.lt_iff_toInt_lt] at q; omega, by have := Int32.lt_iff_toInt_lt.mp q2; omega⟩)]
    exact pq_some (bad _ 1 (Or.inl ⟨rfl, rfl⟩))
  · rw [if_neg h1, if_neg (show ¬ l1 < 0 from fun q => by have := Int32.lt_iff_toInt_lt.mp q; omega), if_pos (show l1 < cI v 10 from Int32.lt_iff_toInt_lt.mpr (by omega))]
    obtain ⟨k, hk1⟩ : ∃ k : Nat, l1.toInt = (k : Int) := ⟨l1.toInt.toNat, by omega⟩
    have nk : l1.toNatClampNeg = k := n_of hk1
    obtain ⟨g1, g2, g3, g4⟩ := hk k (by omega)
    have c11 := nat_cl h11a
    refine pq_bc ?_
    unfold F_X10_latest B_X10_latest_0
    refine pq_pb (fun rr hrr => pq_some ?_)
    have er : rr = Int32.ofNat (rg9 (cI v 11).toNatClampNeg k) := by
      have := mod_100 ⟨(cI v 11).toNatClampNeg + 99 - k, by omega⟩
      have ea : cI v 11 - 1 - l1 = Int32.ofInt ((((cI v 11).toNatClampNeg + 99 - k : Nat) : Int) - 100) := by
        rw [tI_eq, Int32.toInt_ofInt_of_le (by omega) (by omega)]
        have : (cI v 11 - 1).toInt = (cI v 11).toInt - 1 := by rw [tI_sub (by omega) (by omega), e1]
        rw [tI_sub (by omega) (by omega), this]
        omega
      rw [← ea] at this
      have h0 : F_J9_floorMod_7cf53 N (cI v 11 - 1 - l1) 100 = some (Int32.ofNat (((cI v 11).toNatClampNeg + 99 - k) % 100)) := this
      rw [h0] at hrr
      have : rg9 (cI v 11).toNatClampNeg k = ((cI v 11).toNatClampNeg + 99 - k) % 100 := by
        unfold rg9
        omega
      rw [this]
      exact (Option.some.inj hrr).symm
    have nr : rr.toNatClampNeg = rg9 (cI v 11).toNatClampNeg k := by
      rw [er]
      exact n_of (ofN_t (by unfold rg9; omega))
    have good : ∀ (y : Int64), ((l2 = 0 → y = (u.2.2.1 99 k).toInt64) ∧ (l2 = 1 → y = (u.2.2.1 100 k).toInt64) ∧ (l2 = 2 → y = (u.2.2.1 101 k).toInt64) ∧ (l2 = 3 → y = u.2.2.2 102 k)) → (l2 = 0 ∨ l2 = 1 ∨ l2 = 2 ∨ l2 = 3) → pp (if (r_in l2 0 3) = (0 : Int32) then (B_event_33 M l1 l2 2 u) else (B_event_33 M l1 l2 0 u)) (fun r x => (Sum.inr (α := Nat) y = .inl 3 ∧ x.1 9 = 1) ∨ (Sum.inr (α := Nat) y = .inl 1 ∧ x.1 9 = 2) ∨ (Sum.inr (α := Nat) y = .inr r ∧ x.1 9 = 0)) := by
      intro y hy hl
      rw [if_neg (show ¬ r_in l2 0 3 = 0 by rcases hl with rfl | rfl | rfl | rfl <;> decide)]
      unfold B_event_33
      refine pp_pu ?_
      rw [if_pos (show (sI u 9 0).1 9 ≤ 0 by show (0 : Int32) ≤ 0; decide)]
      rcases hl with rfl | rfl | rfl | rfl
      · rw [if_pos rfl]
        refine pp_rd (pp_some (Or.inr (Or.inr ⟨?_, rfl⟩)))
        rw [nk, hy.1 rfl]
        rfl
      · rw [if_neg (by decide), if_pos rfl]
        refine pp_rd (pp_some (Or.inr (Or.inr ⟨?_, rfl⟩)))
        rw [nk, hy.2.1 rfl]
        rfl
      · rw [if_neg (by decide), if_neg (by decide), if_pos rfl]
        refine pp_rd (pp_some (Or.inr (Or.inr ⟨?_, rfl⟩)))
        rw [nk, hy.2.2.1 rfl]
        rfl
      · rw [if_neg (by decide), if_neg (by decide), if_neg (by decide)]
        refine pp_rd (pp_some (Or.inr (Or.inr ⟨?_, rfl⟩)))
        rw [nk, hy.2.2.2 rfl]
        rfl
    refine pq_if (fun c0 => pq_rd (pq_some ?_)) (fun n0 => pq_if (fun c1 => pq_rd (pq_some ?_)) (fun n1 => pq_if (fun c2 => pq_rd (pq_some ?_)) (fun n2 => pq_if (fun c3 => pq_rd (pq_some ?_)) (fun n3 => pq_some ?_))))
    · rw [nr, g1]
      exact good _ ⟨fun _ => rfl, fun z => by rw [c0] at z; exact absurd z (by decide), fun z => by rw [c0] at z; exact absurd z (by decide), fun z => by rw [c0] at z; exact absurd z (by decide)⟩ (Or.inl c0)
    · rw [nr, g2]
      exact good _ ⟨fun z => by rw [c1] at z; exact absurd z (by decide), fun _ => rfl, fun z => by rw [c1] at z; exact absurd z (by decide), fun z => by rw [c1] at z; exact absurd z (by decide)⟩ (Or.inr (Or.inl c1))
    · rw [nr, g3]
      exact good _ ⟨fun z => by rw [c2] at z; exact absurd z (by decide), fun z => by rw [c2] at z; exact absurd z (by decide), fun _ => rfl, fun z => by rw [c2] at z; exact absurd z (by decide)⟩ (Or.inr (Or.inr (Or.inl c2)))
    · rw [nr, g4]
      exact good _ ⟨fun z => by rw [c3] at z; exact absurd z (by decide), fun z => by rw [c3] at z; exact absurd z (by decide), fun z => by rw [c3] at z; exact absurd z (by decide), fun _ => rfl⟩ (Or.inr (Or.inr (Or.inr c3)))
    · have hb : r_in l2 0 3 = 0 := by
        rcases rin_c (l := l2) (a := 0) (b := 3) with ⟨z, -⟩ | ⟨-, z1, z2⟩
        · exact z
        · exfalso
          rw [e0] at z1
          rw [e3] at z2
          rw [tI_eq] at n0 n1 n2 n3
          have e2 : (2 : Int32).toInt = 2 := by decide
          omega
      rw [if_pos hb]
      exact bad _ 2 (Or.inr ⟨rfl, rfl⟩)
end N20a
/-! count, field, sum. -/
/-- how many of f j .. are not 0 -/
def ctq (f : Nat → Int32) : Nat → Nat → Int32 → Int32
  | _, 0, a => a
  | j, m + 1, a => ctq f (j + 1) m (a + (if f j = 0 then 0 else 1))
theorem ctq_cong {f g : Nat → Int32} : ∀ (m j : Nat) (a : Int32), (∀ i, j ≤ i → i < j + m → f i = g i) → ctq f j m a = ctq g j m a := by
  intro m
  induction m with
  | zero => intro j a _; rfl
  | succ m ih =>
    intro j a h
    show ctq f (j + 1) m (a + (if f j = 0 then 0 else 1)) = ctq g (j + 1) m (a + (if g j = 0 then 0 else 1))
    rw [h j (Nat.le_refl _) (by omega)]
    exact ih (j + 1) _ (fun i h1 h2 => h i (by omega) (by omega))
section N21a
variable {v w : CSt} {u x : RSt} {q s T N M n y k c : Nat} {l1 l2 l3 l4 a b : Int32} {gk : Nat → Int32}
theorem stop_T (hn : (pA v q 9 2).toInt = (n : Int)) (h8 : n ≤ 8) : pq (F_X6_stoppedTasks N q v) (fun r w => w = v ∧ r = ctq (fun k => tI v (8 * q + k) 3) 0 n 0) := by
  have e1 : (1 : Int32).toInt = 1 := by decide
  unfold F_X6_stoppedTasks B_X6_stoppedTasks_0
  refine pq_lp (Z := fun _ r w => w = v ∧ r = ctq (fun k => tI v (8 * q + k) 3) 0 n 0) (fun (y : Nat × Int32 × Int32 × CSt) => y.1 = q ∧ y.2.2.2 = v ∧ ∃ j m : Nat, y.2.2.1.toInt = (j : Int) ∧ j + m = n ∧ ctq (fun k => tI v (8 * q + k) 3) j m y.2.1 = ctq (fun k => tI v (8 * q + k) 3) 0 n 0) ?_ N _ ⟨rfl, rfl, 0, n, z32, by omega, rfl⟩
  rintro R ⟨y1, y2, y3, y4⟩ ⟨h1, h2, j, m, h3, h4, h5⟩ ih
  dsimp only at h1 h2 h3 h5
  rw [h1, h2]
  show pq (B_X6_stoppedTasks_4 N R q y2 y3 v) _
  unfold B_X6_stoppedTasks_4 B_X6_stoppedTasks_32
  have hn2 : (pA v q 9 (2 : Int32).toNatClampNeg).toInt = (n : Int) := hn
  refine pq_rd (pq_if (fun z => ?_) (fun z => ?_))
  · have := Int32.le_iff_toInt_le.mp z
    have m0 : m = 0 := by omega
    subst m0
    exact pq_some ⟨rfl, h5⟩
  · have z' : ¬ (n : Int) ≤ y3.toInt := fun z2 => z (Int32.le_iff_toInt_le.mpr (by omega))
    obtain ⟨m', rfl⟩ : ∃ m', m = m' + 1 := ⟨m - 1, by omega⟩
    have s1 : (y3 + 1).toInt = ((j + 1 : Nat) : Int) := by rw [tI_add (by omega) (by omega), e1]; omega
    have nj : y3.toNatClampNeg = j := n_of h3
    rw [nj]
    refine pq_ix (fun _ => pq_if (fun c => ?_) (fun c => ?_))
    · refine ih _ ⟨rfl, rfl, j + 1, m', s1, by omega, ?_⟩
      rw [← h5]
      show _ = ctq (fun k => tI v (8 * q + k) 3) (j + 1) m' (y2 + (if tI v (8 * q + j) 3 = 0 then 0 else 1))
      rw [if_pos c]
    · refine ih _ ⟨rfl, rfl, j + 1, m', s1, by omega, ?_⟩
      rw [← h5]
      show _ = ctq (fun k => tI v (8 * q + k) 3) (j + 1) m' (y2 + (if tI v (8 * q + j) 3 = 0 then 0 else 1))
      rw [if_neg c]
theorem y_ctq {Q : Int32 → RSt → Prop} (h55 : (u.1 55).toInt = (s : Int)) (hn : (u.2.2.1 48 s).toInt = (n : Int)) (h8 : n ≤ 8) (kk : ∀ (R : Int32 × Int32 × Int32 × RSt → Option (Int32 × RSt)) (l : Int32), l.toInt = (n : Int) → pp (B_count_23 M R l1 (ctq (u.2.2.1 88) 0 n 0) l u) Q) : pp (LP_count_23 M M (l1, 0, 0, u)) Q := by
  have e1 : (1 : Int32).toInt = 1 := by decide
  have n55 : (u.1 55).toNatClampNeg = s := n_of h55
  refine pp_lp (Z := fun _ r w => Q r w) (fun (y : Int32 × Int32 × Int32 × RSt) => y.1 = l1 ∧ y.2.2.2 = u ∧ ∃ j m : Nat, y.2.2.1.toInt = (j : Int) ∧ j + m = n ∧ ctq (u.2.2.1 88) j m y.2.1 = ctq (u.2.2.1 88) 0 n 0) ?_ M _ ⟨rfl, rfl, 0, n, z32, by omega, rfl⟩
  rintro R ⟨y1, y2, y3, y4⟩ ⟨h1, h2, j, m, h3, h4, h5⟩ ih
  dsimp only at h1 h2 h3 h5
  rw [h1, h2]
  show pp (B_count_23 M R l1 y2 y3 u) _
  by_cases m0 : m = 0
  · subst m0
    have h5 : y2 = ctq (u.2.2.1 88) 0 n 0 := h5
    rw [h5]
    exact kk R y3 (by omega)
  · obtain ⟨m', rfl⟩ : ∃ m', m = m' + 1 := ⟨m - 1, by omega⟩
    have s1 : (y3 + 1).toInt = ((j + 1 : Nat) : Int) := by rw [tI_add (by omega) (by omega), e1]; omega
    have nj : y3.toNatClampNeg = j := n_of h3
    unfold B_count_23 B_count_51
    refine pp_rd ?_
    rw [n55, if_neg (fun z => by have := Int32.le_iff_toInt_le.mp z; omega)]
    refine pp_rd ?_
    rw [nj]
    refine pp_if (fun c => ?_) (fun c => ?_)
    · refine ih _ ⟨rfl, rfl, j + 1, m', s1, by omega, ?_⟩
      rw [← h5]
      show _ = ctq (u.2.2.1 88) (j + 1) m' (y2 + (if u.2.2.1 88 j = 0 then 0 else 1))
      rw [if_pos c]
    · refine ih _ ⟨rfl, rfl, j + 1, m', s1, by omega, ?_⟩
      rw [← h5]
      show _ = ctq (u.2.2.1 88) (j + 1) m' (y2 + (if u.2.2.1 88 j = 0 then 0 else 1))
      rw [if_neg c]
theorem count_T (h : TBM v u q s T) (hq : cR v 0 = q) (h55 : (u.1 55).toInt = (s : Int)) (hk : TKq v u q s) (h0 : cI v 0 = u.1 1) (hL : cI v 9 = u.1 98) (hE : cI v 10 = u.1 103) (h1 : cI v 1 = u.1 104) (h2 : cI v 2 = u.1 105) : pq (F_X11_count N l1 v) (fun y w => pp (F_count M l1 u) (fun r x => (y = .inl 1 ∧ x.1 9 = 1) ∨ (y = .inr r ∧ x.1 9 = 0))) := by
  have e0 : (0 : Int32).toInt = 0 := by decide
  have e10 : (10 : Int32).toInt = 10 := by decide
  have n55 : (u.1 55).toNatClampNeg = s := n_of h55
  have c := h.2.2.2.2.2.2.1
  obtain ⟨c0, c1, c2, c3, c4, -, -, c8, -⟩ := c
  obtain ⟨n, hn⟩ : ∃ n : Nat, (u.2.2.1 48 s).toInt = (n : Int) := ⟨(u.2.2.1 48 s).toInt.toNat, by omega⟩
  have ct : ctq (fun k => tI v (8 * q + k) 3) 0 n 0 = ctq (u.2.2.1 88) 0 n 0 := ctq_cong n 0 0 (fun i _ hi => (hk i (by omega)).2.2.2.2)
  have fin : ∀ y : Int32, (∀ (R : Int32 × Int32 × Int32 × RSt → Option (Int32 × RSt)) (l : Int32), l.toInt = (n : Int) → pp (B_count_23 M R l1 (ctq ((sI u 9 0).2.2.1 88) 0 n 0) l (sI u 9 0)) (fun r x => y = r ∧ x.1 9 = 0)) → r_in l1 0 10 ≠ 0 → pp (F_count M l1 u) (fun r x => (Sum.inr (α := Nat) y = .inl 1 ∧ x.1 9 = 1) ∨ (Sum.inr (α := Nat) y = .inr r ∧ x.1 9 = 0)) := by
    intro y hy hr
    unfold F_count B_count_0 B_count_16
    rw [if_neg hr]
    refine pp_pu (pp_m (y_ctq (u := sI u 9 0) (s := s) h55 hn (by omega) hy) (fun r x hx => Or.inr ⟨by rw [hx.1], hx.2⟩))
  unfold F_X11_count B_X11_count_0
  refine pq_if (fun d => ?_) (fun n0 => ?_)
  · have hr : r_in l1 0 10 ≠ 0 := by rw [d]; decide
    refine pq_ok (fun _ => pq_bc ?_)
    unfold F_X6_ofSort B_X6_ofSort_0
    refine pq_rd (pq_some (pq_some (fin _ (fun R l hl => ?_) hr)))
    rw [d]
    unfold B_count_23
    refine pp_rd ?_
    rw [show ((sI u 9 0).1 55).toNatClampNeg = s from n55, if_pos (show (sI u 9 0).2.2.1 48 s ≤ l from Int32.le_iff_toInt_le.mpr (show (u.2.2.1 48 s).toInt ≤ l.toInt by omega)), if_pos rfl]
    refine pp_rd (pp_some ⟨?_, rfl⟩)
    rw [show ((sI u 9 0).1 55).toNatClampNeg = s from n55]
    rw [hq]
    exact c0
  refine pq_if (fun d => ?_) (fun n1 => ?_)
  · have hr : r_in l1 0 10 ≠ 0 := by rw [d]; decide
    refine pq_ok (fun _ => pq_bc ?_)
    unfold F_X6_ofSort B_X6_ofSort_0
    refine pq_rd (pq_some (pq_some (fin _ (fun R l hl => ?_) hr)))
    rw [d]
    unfold B_count_23
    refine pp_rd ?_
    rw [show ((sI u 9 0).1 55).toNatClampNeg = s from n55, if_pos (show (sI u 9 0).2.2.1 48 s ≤ l from Int32.le_iff_toInt_le.mpr (show (u.2.2.1 48 s).toInt ≤ l.toInt by omega)), if_neg (show ¬ (1 : Int32) = 0 by decide), if_pos rfl]
    refine pp_rd (pp_some ⟨?_, rfl⟩)
    rw [show ((sI u 9 0).1 55).toNatClampNeg = s from n55]
    rw [hq]
    exact c1
  refine pq_if (fun d => ?_) (fun n2 => ?_)
  · have hr : r_in l1 0 10 ≠ 0 := by rw [d]; decide
    refine pq_ok (fun _ => pq_bc ?_)
    unfold F_X6_ofSort B_X6_ofSort_0
    refine pq_rd (pq_some (pq_some (fin _ (fun R l hl => ?_) hr)))
    rw [d]
    unfold B_count_23
    refine pp_rd ?_
    rw [show ((sI u 9 0).1 55).toNatClampNeg = s from n55, if_pos (show (sI u 9 0).2.2.1 48 s ≤ l from Int32.le_iff_toInt_le.mpr (show (u.2.2.1 48 s).toInt ≤ l.toInt by omega)), if_neg (show ¬ (2 : Int32) = 0 by decide), if_neg (show ¬ (2 : Int32) = 1 by decide), if_pos rfl]
    refine pp_rd (pp_some ⟨?_, rfl⟩)
    rw [show ((sI u 9 0).1 55).toNatClampNeg = s from n55]
    rw [hq]
    exact c2
  refine pq_if (fun d => ?_) (fun n3 => ?_)
  · have hr : r_in l1 0 10 ≠ 0 := by rw [d]; decide
    refine pq_ok (fun _ => pq_bc ?_)
    unfold F_X6_ofSort B_X6_ofSort_0
    refine pq_rd (pq_some (pq_some (fin _ (fun R l hl => ?_) hr)))
    rw [d]
    unfold B_count_23
    refine pp_rd ?_
    rw [show ((sI u 9 0).1 55).toNatClampNeg = s from n55, if_pos (show (sI u 9 0).2.2.1 48 s ≤ l from Int32.le_iff_toInt_le.mpr (show (u.2.2.1 48 s).toInt ≤ l.toInt by omega)), if_neg (show ¬ (3 : Int32) = 0 by decide), if_neg (show ¬ (3 : Int32) = 1 by decide), if_neg (show ¬ (3 : Int32) = 2 by decide), if_pos rfl]
    refine pp_rd (pp_some ⟨?_, rfl⟩)
    rw [show ((sI u 9 0).1 55).toNatClampNeg = s from n55]
    rw [hq]
    exact c3
  refine pq_if (fun d => ?_) (fun n4 => ?_)
  · have hr : r_in l1 0 10 ≠ 0 := by rw [d]; decide
    refine pq_ok (fun _ => pq_bc ?_)
    unfold F_X6_ofSort B_X6_ofSort_0
    refine pq_rd (pq_some (pq_some (fin _ (fun R l hl => ?_) hr)))
    rw [d]
    unfold B_count_23
    refine pp_rd ?_
    rw [show ((sI u 9 0).1 55).toNatClampNeg = s from n55, if_pos (show (sI u 9 0).2.2.1 48 s ≤ l from Int32.le_iff_toInt_le.mpr (show (u.2.2.1 48 s).toInt ≤ l.toInt by omega)), if_neg (show ¬ (4 : Int32) = 0 by decide), if_neg (show ¬ (4 : Int32) = 1 by decide), if_neg (show ¬ (4 : Int32) = 2 by decide), if_neg (show ¬ (4 : Int32) = 3 by decide), if_pos rfl]
    refine pp_rd (pp_some ⟨?_, rfl⟩)
    rw [show ((sI u 9 0).1 55).toNatClampNeg = s from n55]
    rw [hq]
    exact c4
  refine pq_if (fun d => ?_) (fun n5 => ?_)
  · have hr : r_in l1 0 10 ≠ 0 := by rw [d]; decide
    refine pq_some (fin _ (fun R l hl => ?_) hr)
    rw [d]
    unfold B_count_23
    refine pp_rd ?_
    rw [show ((sI u 9 0).1 55).toNatClampNeg = s from n55, if_pos (show (sI u 9 0).2.2.1 48 s ≤ l from Int32.le_iff_toInt_le.mpr (show (u.2.2.1 48 s).toInt ≤ l.toInt by omega)), if_neg (show ¬ (5 : Int32) = 0 by decide), if_neg (show ¬ (5 : Int32) = 1 by decide), if_neg (show ¬ (5 : Int32) = 2 by decide), if_neg (show ¬ (5 : Int32) = 3 by decide), if_neg (show ¬ (5 : Int32) = 4 by decide), if_pos rfl]
    exact pp_some ⟨h1, rfl⟩
  refine pq_if (fun d => ?_) (fun n6 => ?_)
  · have hr : r_in l1 0 10 ≠ 0 := by rw [d]; decide
    refine pq_ok (fun _ => pq_bc ?_)
    rw [hq]
    refine pq_m (stop_T (n := n) (by rw [c2]; exact hn) (by omega)) (fun r w hw => pq_some (fin _ (fun R l hl => ?_) hr))
    rw [d]
    unfold B_count_23
    refine pp_rd ?_
    rw [show ((sI u 9 0).1 55).toNatClampNeg = s from n55, if_pos (show (sI u 9 0).2.2.1 48 s ≤ l from Int32.le_iff_toInt_le.mpr (show (u.2.2.1 48 s).toInt ≤ l.toInt by omega)), if_neg (show ¬ (6 : Int32) = 0 by decide), if_neg (show ¬ (6 : Int32) = 1 by decide), if_neg (show ¬ (6 : Int32) = 2 by decide), if_neg (show ¬ (6 : Int32) = 3 by decide), if_neg (show ¬ (6 : Int32) = 4 by decide), if_neg (show ¬ (6 : Int32) = 5 by decide), if_pos rfl]
    refine pp_some ⟨?_, rfl⟩
    rw [hw.2]
    exact ct
  refine pq_if (fun d => ?_) (fun n7 => ?_)
  · have hr : r_in l1 0 10 ≠ 0 := by rw [d]; decide
    refine pq_some (fin _ (fun R l hl => ?_) hr)
    rw [d]
    unfold B_count_23
    refine pp_rd ?_
    rw [show ((sI u 9 0).1 55).toNatClampNeg = s from n55, if_pos (show (sI u 9 0).2.2.1 48 s ≤ l from Int32.le_iff_toInt_le.mpr (show (u.2.2.1 48 s).toInt ≤ l.toInt by omega)), if_neg (show ¬ (7 : Int32) = 0 by decide), if_neg (show ¬ (7 : Int32) = 1 by decide), if_neg (show ¬ (7 : Int32) = 2 by decide), if_neg (show ¬ (7 : Int32) = 3 by decide), if_neg (show ¬ (7 : Int32) = 4 by decide), if_neg (show ¬ (7 : Int32) = 5 by decide), if_neg (show ¬ (7 : Int32) = 6 by decide), if_pos rfl]
    exact pp_some ⟨hL, rfl⟩
  refine pq_if (fun d => ?_) (fun n8 => ?_)
  · have hr : r_in l1 0 10 ≠ 0 := by rw [d]; decide
    refine pq_some (fin _ (fun R l hl => ?_) hr)
    rw [d]
    unfold B_count_23
    refine pp_rd ?_
    rw [show ((sI u 9 0).1 55).toNatClampNeg = s from n55, if_pos (show (sI u 9 0).2.2.1 48 s ≤ l from Int32.le_iff_toInt_le.mpr (show (u.2.2.1 48 s).toInt ≤ l.toInt by omega)), if_neg (show ¬ (8 : Int32) = 0 by decide), if_neg (show ¬ (8 : Int32) = 1 by decide), if_neg (show ¬ (8 : Int32) = 2 by decide), if_neg (show ¬ (8 : Int32) = 3 by decide), if_neg (show ¬ (8 : Int32) = 4 by decide), if_neg (show ¬ (8 : Int32) = 5 by decide), if_neg (show ¬ (8 : Int32) = 6 by decide), if_neg (show ¬ (8 : Int32) = 7 by decide), if_pos rfl]
    exact pp_some ⟨hE, rfl⟩
  refine pq_if (fun d => ?_) (fun n9 => ?_)
  · have hr : r_in l1 0 10 ≠ 0 := by rw [d]; decide
    refine pq_some (fin _ (fun R l hl => ?_) hr)
    rw [d]
    unfold B_count_23
    refine pp_rd ?_
    rw [show ((sI u 9 0).1 55).toNatClampNeg = s from n55, if_pos (show (sI u 9 0).2.2.1 48 s ≤ l from Int32.le_iff_toInt_le.mpr (show (u.2.2.1 48 s).toInt ≤ l.toInt by omega)), if_neg (show ¬ (9 : Int32) = 0 by decide), if_neg (show ¬ (9 : Int32) = 1 by decide), if_neg (show ¬ (9 : Int32) = 2 by decide), if_neg (show ¬ (9 : Int32) = 3 by decide), if_neg (show ¬ (9 : Int32) = 4 by decide), if_neg (show ¬ (9 : Int32) = 5 by decide), if_neg (show ¬ (9 : Int32) = 6 by decide), if_neg (show ¬ (9 : Int32) = 7 by decide), if_neg (show ¬ (9 : Int32) = 8 by decide), if_pos rfl]
    exact pp_some ⟨h0, rfl⟩
  refine pq_if (fun d => ?_) (fun n10 => ?_)
  · have hr : r_in l1 0 10 ≠ 0 := by rw [d]; decide
    refine pq_some (fin _ (fun R l hl => ?_) hr)
    rw [d]
    unfold B_count_23
    refine pp_rd ?_
    rw [show ((sI u 9 0).1 55).toNatClampNeg = s from n55, if_pos (show (sI u 9 0).2.2.1 48 s ≤ l from Int32.le_iff_toInt_le.mpr (show (u.2.2.1 48 s).toInt ≤ l.toInt by omega)), if_neg (show ¬ (10 : Int32) = 0 by decide), if_neg (show ¬ (10 : Int32) = 1 by decide), if_neg (show ¬ (10 : Int32) = 2 by decide), if_neg (show ¬ (10 : Int32) = 3 by decide), if_neg (show ¬ (10 : Int32) = 4 by decide), if_neg (show ¬ (10 : Int32) = 5 by decide), if_neg (show ¬ (10 : Int32) = 6 by decide), if_neg (show ¬ (10 : Int32) = 7 by decide), if_neg (show ¬ (10 : Int32) = 8 by decide), if_neg (show ¬ (10 : Int32) = 9 by decide), if_pos rfl]
    exact pp_some ⟨h2, rfl⟩
  refine pq_some ?_
  have hb : r_in l1 0 10 = 0 := by
    rcases rin_c (l := l1) (a := 0) (b := 10) with ⟨z, -⟩ | ⟨-, z1, z2⟩
    · exact z
    · exfalso
      rw [e0] at z1
      rw [e10] at z2
      rw [tI_eq] at n0 n1 n2 n3 n4 n5 n6 n7 n8 n9 n10
      have a1 : (1 : Int32).toInt = 1 := by decide
      have a2 : (2 : Int32).toInt = 2 := by decide
      have a3 : (3 : Int32).toInt = 3 := by decide
      have a4 : (4 : Int32).toInt = 4 := by decide
      have a5 : (5 : Int32).toInt = 5 := by decide
      have a6 : (6 : Int32).toInt = 6 := by decide
      have a7 : (7 : Int32).toInt = 7 := by decide
      have a8 : (8 : Int32).toInt = 8 := by decide
      have a9 : (9 : Int32).toInt = 9 := by decide
      omega
  unfold F_count B_count_0 B_count_16
  rw [if_pos hb]
  refine pp_pu (y_ctq (u := sI u 9 1) (s := s) h55 hn (by omega) (fun R l hl => ?_))
  unfold B_count_23
  refine pp_rd ?_
  rw [show ((sI u 9 1).1 55).toNatClampNeg = s from n55, if_pos (show (sI u 9 1).2.2.1 48 s ≤ l from Int32.le_iff_toInt_le.mpr (show (u.2.2.1 48 s).toInt ≤ l.toInt by omega)), if_neg n0, if_neg n1, if_neg n2, if_neg n3, if_neg n4, if_neg n5, if_neg n6, if_neg n7, if_neg n8, if_neg n9, if_neg n10]
  exact pp_some (Or.inl ⟨rfl, rfl⟩)
end N21a
section N21b
variable {v w : CSt} {u x : RSt} {q s T N M n y k c : Nat} {l1 l2 l3 l4 a b : Int32} {gk : Nat → Int32}
/-- an instance: its name, its block, its numbers, in both -/
theorem ins_T (hB : TBN N v u q s T) (hg : GKf v q T gk) (hy : y < T) (h1 : mI v (169 * q + y) 2 = 1) : ∃ k r K F : Nat, (mI v (169 * q + y) 4).toInt = (k : Int) ∧ k < 24 ∧ r < T ∧ (mI v (169 * q + y) 14).toInt = (r : Int) ∧ mI v (169 * q + r) 2 = 3 ∧ (u.2.2.1 38 (24 * s + k)).toInt = ((bk v (169 * q + r) s : Nat) : Int) ∧ u.2.2.1 39 (24 * s + k) = mI v (169 * q + y) 9 ∧ (mI v (169 * q + r) 12).toInt = (K : Int) ∧ r + 1 + K ≤ T ∧ (u.2.2.1 28 (bk v (169 * q + r) s)).toInt = (F : Int) ∧ (u.2.2.1 29 (bk v (169 * q + r) s)).toInt = (K : Int) ∧ F + K ≤ 160 ∧ bk v (169 * q + r) s < 24 * s + 24 ∧ u.2.2.1 31 (bk v (169 * q + r) s) = mI v (169 * q + r) 7 ∧ (∀ j, j < K → mI v (169 * q + (r + 1 + j)) 2 = 5 ∨ mI v (169 * q + (r + 1 + j)) 2 = 6) ∧ (∀ j, j < K → sE v u (169 * q + (r + 1 + j)) (160 * s + (F + j))) ∧ OFF v q r K ∧ 0 ≤ (mI v (169 * q + y) 9).toInt ∧ (mI v (169 * q + y) 9).toInt + (mI v (169 * q + r) 7).toInt ≤ 2000 ∧ 0 ≤ (mI v (169 * q + r) 7).toInt := by
  obtain ⟨⟨t1, t2, t11, t12, t15, -, -, -, -, t17, -⟩, t16, s7, hci, hfs⟩ := hB
  obtain ⟨k, r, k1, k2, k3, k4, k5, k6, k7, k8, k9⟩ := t17 y hy h1
  obtain ⟨K, F, P, hR, -⟩ := t16 r k3 (Or.inl k5)
  obtain ⟨a1, a2, a3, a4, a5, a6, a7, a8, a9, a10, a11, a12, a13, a14, a15, a16, a17⟩ := id hR
  have hO := s7 r k3 (Or.inl k5) K a4
  obtain ⟨g1, g2, g3⟩ := (hg y hy).2 h1 r k4
  have a3 := a3 k5
  have hb : bk v (169 * q + r) s < 24 * s + 24 := by
    have := nat_cl a1
    unfold bk
    rw [if_pos k5]
    omega
  have h7 : 0 ≤ (mI v (169 * q + r) 7).toInt := by
    obtain ⟨f, f1, f2, f3, f4⟩ := hO
    have key : ∀ j, j ≤ K → 0 ≤ f j := by
      intro j
      induction j with
      | zero => intro _; rw [f1]; exact Int.le_refl _
      | succ j ih =>
        intro hj
        have := ih (by omega)
        obtain ⟨-, b2, b3, -⟩ := f4 j (by omega)
        omega
    rw [← f2]
    exact key K (Nat.le_refl _)
  refine ⟨k, r, K, F, k1, k2, k3, k4, k5, k6, k7, a4, a5, a6, a7, by omega, hb, a14, fun j hj => ?_, fun j hj => (a16 j hj).2, hO, g1, g2, h7⟩
  have := (a16 j hj).1
  by_cases z : j < P
  · rw [if_pos z] at this
    exact Or.inl this
  · rw [if_neg z] at this
    exact Or.inr this
/-- field -/
theorem field_T (hB : TBN N v u q s T) (hg : GKf v q T gk) (hq : cR v 0 = q) (h55 : (u.1 55).toInt = (s : Int)) (hs : s < 2) (hU : mI v (169 * q + 168) 2 = 8) (hM : ∀ c, c < 2000 → cB v 235 c = u.2.2.2 82 c) : pq (F_X11_field N l1 l2 l3 v) (fun y w => pp (F_field M l1 l2 l3 u) (fun r x => (y = .inl 3 ∧ x.1 9 = 1) ∨ (y = .inr r ∧ x.1 9 = 0))) := by
  have e0 : (0 : Int32).toInt = 0 := by decide
  have e24 : (24 : Int32).toInt = 24 := by decide
  have e160 : (160 : Int32).toInt = 160 := by decide
  have tb := hB.1
  have t2 := tb.2.1
  have c := tb.2.2.2.2.2.2.1
  have c1 : pA v q 9 1 = u.2.2.1 42 s := c.2.1
  have c24 := c.2.2.2.2.2.2.1
  have n55 : (u.1 55).toNatClampNeg = s := n_of h55
  unfold F_X11_field B_X11_field_0
  refine pq_ok (fun _ => pq_bc (pq_m k_hasG (fun r w hw => ?_)))
  obtain ⟨e, hr⟩ := hw
  rw [e]
  rw [hq] at hr ⊢
  have hr : ((0 ≤ l1.toInt ∧ l1.toInt < (pA v q 9 1).toInt) ∧ r = 1) ∨ (¬ (0 ≤ l1.toInt ∧ l1.toInt < (pA v q 9 1).toInt) ∧ r = 0) := hr
  unfold F_field B_field_0
  rcases hr with ⟨h1, hr⟩ | ⟨h1, hr⟩
  · rw [hr, if_neg (by decide)]
    obtain ⟨y, y1, y2, y3, hnth⟩ := k_nthG (N := N) (so := 1) (o := 1) tb (by decide) (by decide) h1
    obtain ⟨k, r, K, F, i1, i2, i3, i4, i5, i6, i7, i8, i9, i10, i11, i12, i13, i14, i15, i16, i17, i18, i19, i20⟩ := ins_T hB hg y1 y2
    refine pq_ok (fun _ => pq_bc (pq_m hnth (fun r5 w5 h5 => pq_ok (fun _ => ?_))))
    rw [h5.1, h5.2, hq]
    refine pq_ok (fun _ => pq_bc (pq_m (k2_name i4 tb.1 i3) (fun r6 w6 h6 => pq_ok (fun _ => ?_))))
    rw [h6.1, h6.2]
    rw [c1] at h1
    have x24 : (24 * (u.1 55) + l1).toNatClampNeg = 24 * s + k := by
      refine n_of ?_
      have m1 : (24 * u.1 55).toInt = ((24 * s : Nat) : Int) := by rw [tI_mul (by rw [e24, h55]; omega) (by rw [e24, h55]; omega), e24, h55]; omega
      rw [tI_add (by omega) (by omega), m1]
      omega
    have nb' : (u.2.2.1 38 (24 * s + k)).toNatClampNeg = bk v (169 * q + r) s := n_of i6
    have ref0 : ∀ {Q : Int64 → RSt → Prop}, pp (rd (u.2.2.1 29) 48 (u.2.2.1 38 (24 * s + k)) fun v_9 => if (r_in l2 0 (v_9 - 1)) = (0 : Int32) then (some (0, sI u 9 1)) else (rd (u.2.2.1 28) 48 (u.2.2.1 38 (24 * s + k)) fun v_14 => rd (u.2.2.1 21) 320 (((160 * (u.1 55)) + v_14) + l2) fun v_16 => if (r_in l3 0 (v_16 - 1)) = (0 : Int32) then (some (0, sI u 9 1)) else (pu (sI (sI u 9 1) 9 0) fun u_21 => rd (u_21.2.2.1 39) 48 ((24 * (u.1 55)) + l1) fun v_22 => rd (u_21.2.2.1 23) 320 (((160 * (u.1 55)) + v_14) + l2) fun v_24 => rd (u_21.2.2.2 82) 3000 ((v_22 + v_24) + l3) fun v_26 => some (v_26, u_21)))) Q → pp (pu (sI u 9 1) fun u_1 => rd (u_1.2.2.1 42) 2 (u_1.1 55) fun v_2 => if (r_in l1 0 (v_2 - 1)) = (0 : Int32) then (some (0, u_1)) else (rd (u_1.2.2.1 38) 48 ((24 * (u_1.1 55)) + l1) fun v_7 => rd (u_1.2.2.1 29) 48 v_7 fun v_9 => if (r_in l2 0 (v_9 - 1)) = (0 : Int32) then (some (0, u_1)) else (rd (u_1.2.2.1 28) 48 v_7 fun v_14 => rd (u_1.2.2.1 21) 320 (((160 * (u_1.1 55)) + v_14) + l2) fun v_16 => if (r_in l3 0 (v_16 - 1)) = (0 : Int32) then (some (0, u_1)) else (pu (sI u_1 9 0) fun u_21 => rd (u_21.2.2.1 39) 48 ((24 * (u_1.1 55)) + l1) fun v_22 => rd (u_21.2.2.1 23) 320 (((160 * (u_1.1 55)) + v_14) + l2) fun v_24 => rd (u_21.2.2.2 82) 3000 ((v_22 + v_24) + l3) fun v_26 => some (v_26, u_21))))) Q := by
      intro Q hQ
      refine pp_pu (pp_rd ?_)
      rw [show ((sI u 9 1).1 55).toNatClampNeg = s from n55]
      rcases rin0 (l := l1) (m := u.2.2.1 42 s) c24.1 (by omega) with ⟨z, z2⟩ | ⟨z, z2⟩
      · exact absurd h1 z2
      · rw [if_neg (show ¬ r_in l1 0 ((sI u 9 1).2.2.1 42 s - 1) = 0 by show ¬ r_in l1 0 (u.2.2.1 42 s - 1) = 0; rw [z]; decide)]
        refine pp_rd ?_
        rw [show (24 * ((sI u 9 1).1 55) + l1).toNatClampNeg = 24 * s + k from x24]
        exact hQ
    have lK : (u.2.2.1 29 (bk v (169 * q + r) s)).toInt ≤ 1000 := by omega
    have bad2 : ¬ (0 ≤ l2.toInt ∧ l2.toInt < (K : Int)) → ∀ y : Sum Nat Int64, y = .inl 3 → pp (pu (sI u 9 1) fun u_1 => rd (u_1.2.2.1 42) 2 (u_1.1 55) fun v_2 => if (r_in l1 0 (v_2 - 1)) = (0 : Int32) then (some (0, u_1)) else (rd (u_1.2.2.1 38) 48 ((24 * (u_1.1 55)) + l1) fun v_7 => rd (u_1.2.2.1 29) 48 v_7 fun v_9 => if (r_in l2 0 (v_9 - 1)) = (0 : Int32) then (some (0, u_1)) else (rd (u_1.2.2.1 28) 48 v_7 fun v_14 => rd (u_1.2.2.1 21) 320 (((160 * (u_1.1 55)) + v_14) + l2) fun v_16 => if (r_in l3 0 (v_16 - 1)) = (0 : Int32) then (some (0, u_1)) else (pu (sI u_1 9 0) fun u_21 => rd (u_21.2.2.1 39) 48 ((24 * (u_1.1 55)) + l1) fun v_22 => rd (u_21.2.2.1 23) 320 (((160 * (u_1.1 55)) + v_14) + l2) fun v_24 => rd (u_21.2.2.2 82) 3000 ((v_22 + v_24) + l3) fun v_26 => some (v_26, u_21))))) (fun r x => (y = .inl 3 ∧ x.1 9 = 1) ∨ (y = .inr r ∧ x.1 9 = 0)) := by
      intro hl y hy
      refine ref0 (pp_rd ?_)
      rw [nb']
      rcases rin0 (l := l2) (m := u.2.2.1 29 (bk v (169 * q + r) s)) (by omega) lK with ⟨z, z2⟩ | ⟨z, z2⟩
      · rw [if_pos z]
        exact pp_some (Or.inl ⟨hy, rfl⟩)
      · exact absurd z2 (by rw [i11]; exact hl)
    have unk : pq (some (169 * q + 168, v)) (fun r7 w7 => r7 = 169 * q + 168 ∧ w7 = v) := pq_some ⟨rfl, rfl⟩
    by_cases hl2 : 0 ≤ l2.toInt ∧ l2.toInt < (K : Int)
    · obtain ⟨j, hj⟩ : ∃ j : Nat, l2.toInt = (j : Int) := ⟨l2.toInt.toNat, by omega⟩
      have hjK : j < K := by omega
      refine pq_bc (pq_m (local_at (tb.2.2.1 r i3).1 i8 hjK hj tb.1 i9 t2) (fun r7 w7 h7 => pq_ok (fun _ => ?_)))
      rw [h7.1, h7.2]
      have n8 : ¬ mI v (169 * q + (r + 1 + j)) 2 = 8 := by
        rcases i15 j hjK with z | z <;> (rw [z]; decide)
      rw [if_neg n8]
      obtain ⟨x1, x2, x3, x4, x5, x6, x7, x8⟩ := i16 j hjK
      obtain ⟨o1, -, o3, -⟩ := OFF_all i17
      obtain ⟨p1, p2, p3⟩ := o1 j hjK
      have p7 : (mI v (169 * q + (r + 1 + j)) 7).toInt ≤ 1000 := by omega
      have x160 : (160 * (u.1 55) + u.2.2.1 28 (bk v (169 * q + r) s) + l2).toNatClampNeg = 160 * s + (F + j) := by
        refine n_of ?_
        have m1 : (160 * u.1 55).toInt = ((160 * s : Nat) : Int) := by rw [tI_mul (by rw [e160, h55]; omega) (by rw [e160, h55]; omega), e160, h55]; omega
        have m2 : (160 * u.1 55 + u.2.2.1 28 (bk v (169 * q + r) s)).toInt = ((160 * s + F : Nat) : Int) := by rw [tI_add (by omega) (by omega), m1, i10]; omega
        rw [tI_add (by omega) (by omega), m2]
        omega
      have ref1 : ∀ {Q : Int64 → RSt → Prop}, pp (if (r_in l3 0 (mI v (169 * q + (r + 1 + j)) 7 - 1)) = (0 : Int32) then (some (0, sI u 9 1)) else (pu (sI (sI u 9 1) 9 0) fun u_21 => rd (u_21.2.2.1 39) 48 ((24 * (u.1 55)) + l1) fun v_22 => rd (u_21.2.2.1 23) 320 (((160 * (u.1 55)) + u.2.2.1 28 (bk v (169 * q + r) s)) + l2) fun v_24 => rd (u_21.2.2.2 82) 3000 ((v_22 + v_24) + l3) fun v_26 => some (v_26, u_21))) Q → pp (pu (sI u 9 1) fun u_1 => rd (u_1.2.2.1 42) 2 (u_1.1 55) fun v_2 => if (r_in l1 0 (v_2 - 1)) = (0 : Int32) then (some (0, u_1)) else (rd (u_1.2.2.1 38) 48 ((24 * (u_1.1 55)) + l1) fun v_7 => rd (u_1.2.2.1 29) 48 v_7 fun v_9 => if (r_in l2 0 (v_9 - 1)) = (0 : Int32) then (some (0, u_1)) else (rd (u_1.2.2.1 28) 48 v_7 fun v_14 => rd (u_1.2.2.1 21) 320 (((160 * (u_1.1 55)) + v_14) + l2) fun v_16 => if (r_in l3 0 (v_16 - 1)) = (0 : Int32) then (some (0, u_1)) else (pu (sI u_1 9 0) fun u_21 => rd (u_21.2.2.1 39) 48 ((24 * (u_1.1 55)) + l1) fun v_22 => rd (u_21.2.2.1 23) 320 (((160 * (u_1.1 55)) + v_14) + l2) fun v_24 => rd (u_21.2.2.2 82) 3000 ((v_22 + v_24) + l3) fun v_26 => some (v_26, u_21))))) Q := by
        intro Q hQ
        refine ref0 (pp_rd ?_)
        rw [nb']
        rcases rin0 (l := l2) (m := u.2.2.1 29 (bk v (169 * q + r) s)) (by omega) lK with ⟨z, z2⟩ | ⟨z, z2⟩
        · exact absurd (by rw [i11]; exact hl2) z2
        · rw [if_neg (by rw [z]; decide)]
          refine pp_rd ?_
          rw [nb']
          refine pp_rd ?_
          rw [x160, x2]
          exact hQ
      refine pq_if (fun z => pq_some (ref1 ?_)) (fun z => pq_if (fun z2 => ?_) (fun z2 => pq_some (ref1 ?_)))
      · rcases rin0 (l := l3) (m := mI v (169 * q + (r + 1 + j)) 7) (by omega) p7 with ⟨g, g2⟩ | ⟨g, g2⟩
        · rw [if_pos g]
          exact pp_some (Or.inl ⟨rfl, rfl⟩)
        · have := Int32.lt_iff_toInt_lt.mp z
          omega
      · have b1 := Int32.lt_iff_toInt_lt.mp z2
        have b0 : 0 ≤ l3.toInt := by rw [Int32.lt_iff_toInt_lt] at z; omega
        have s1 : (mI v (169 * q + y) 9 + mI v (169 * q + (r + 1 + j)) 9).toInt = (mI v (169 * q + y) 9).toInt + (mI v (169 * q + (r + 1 + j)) 9).toInt := tI_add (by omega) (by omega)
        obtain ⟨c, hc1, hc2⟩ : ∃ c : Nat, (mI v (169 * q + y) 9 + mI v (169 * q + (r + 1 + j)) 9 + l3).toInt = (c : Int) ∧ c < 2000 := ⟨((mI v (169 * q + y) 9).toInt + (mI v (169 * q + (r + 1 + j)) 9).toInt + l3.toInt).toNat, by rw [tI_add (by omega) (by omega), s1]; omega, by omega⟩
        refine pq_bc (pq_m (at_T hc1 hc2) (fun r8 w8 h8 => pq_some (ref1 ?_)))
        rcases rin0 (l := l3) (m := mI v (169 * q + (r + 1 + j)) 7) (by omega) p7 with ⟨g, g2⟩ | ⟨g, g2⟩
        · exact absurd ⟨b0, b1⟩ g2
        · rw [if_neg (by rw [g]; decide)]
          refine pp_pu (pp_rd (pp_rd (pp_rd (pp_some (Or.inr ⟨?_, rfl⟩)))))
          rw [h8.2, x24, x160]
          show Sum.inr (cB v 235 c) = Sum.inr (u.2.2.2 82 (u.2.2.1 39 (24 * s + k) + u.2.2.1 23 (160 * s + (F + j)) + l3).toNatClampNeg)
          rw [i7, x4, n_of hc1, hM c hc2]
      · rcases rin0 (l := l3) (m := mI v (169 * q + (r + 1 + j)) 7) (by omega) p7 with ⟨g, g2⟩ | ⟨g, g2⟩
        · rw [if_pos g]
          exact pp_some (Or.inl ⟨rfl, rfl⟩)
        · exact absurd (Int32.lt_iff_toInt_lt.mpr g2.2) z2
    · have hloc : pq (F_X6_local N q (169 * q + r) l2 v) (fun r7 w7 => r7 = 169 * q + 168 ∧ w7 = v) := by
        unfold F_X6_local B_X6_local_0
        refine pq_if (fun _ => unk) (fun z => ?_)
        rw [if_pos (Int32.le_iff_toInt_le.mpr (by rw [Int32.lt_iff_toInt_lt] at z; omega))]
        exact unk
      refine pq_bc (pq_m hloc (fun r7 w7 h7 => pq_ok (fun _ => ?_)))
      rw [h7.1, h7.2, if_pos hU]
      exact pq_some (bad2 hl2 _ rfl)
  · rw [hr, if_pos rfl]
    rw [c1] at h1
    refine pq_some (pp_pu (pp_rd ?_))
    rw [show ((sI u 9 1).1 55).toNatClampNeg = s from n55]
    rcases rin0 (l := l1) (m := u.2.2.1 42 s) c24.1 (by omega) with ⟨z, z2⟩ | ⟨z, z2⟩
    · rw [if_pos (show r_in l1 0 ((sI u 9 1).2.2.1 42 s - 1) = 0 from z)]
      exact pp_some (Or.inl ⟨rfl, rfl⟩)
    · exact absurd z2 h1
/-! sum -/
theorem sum_30 (hV : VY v u q s T y k a 0) (hq : cR v 0 = q) (hM : ∀ c, c < 2000 → cB v 235 c = u.2.2.2 82 c) (hI : IMo v u) {R4 : Int64 × Int32 × CSt → Option (Int64 × CSt)} {R9 : Int64 × Int32 × RSt → Option (Int64 × RSt)} (hR : ∀ z, pq (R4 (z, a + 1, v)) (fun y _ => pp (R9 (z, a + 1, u)) (fun r x => r = y ∧ x.1 9 = u.1 9))) : ∀ (F F' : Nat) (z : Int64) (j : Int32), 0 ≤ j.toInt → j.toInt ≤ (mI v (169 * q + y) 7).toInt → pq (LP_X11_sum_30 N R4 F (z, a, 169 * q + y, j, v)) (fun y _ => pp (LP_sum_25 M R9 F' (z, a, j, u)) (fun r x => r = y ∧ x.1 9 = u.1 9)) := by
  have e1 : (1 : Int32).toInt = 1 := by decide
  obtain ⟨y1, y2, y3, y4, y5, y6, y7, y8, yv, yq⟩ := id hV
  have row11 : u.2.2.1 11 (160 * (u.1 55) + a).toNatClampNeg = mI v (169 * q + y) 7 := by
    obtain ⟨k', z1, z2, z3, z4, -⟩ := yv
    have ek : k' = k := by omega
    rw [y6, ← ek]
    exact z4
  have p7 := yq.2.1
  intro F
  induction F with
  | zero => exact fun _ _ _ _ _ _ _ e => nomatch e
  | succ F ih =>
    intro F' z j j0 j1
    cases F' with
    | zero => exact fun _ _ _ _ _ e => nomatch e
    | succ F' =>
      show pq (B_X11_sum_30 N R4 (LP_X11_sum_30 N R4 F) z a (169 * q + y) j v) (fun y _ => pp (B_sum_25 M R9 (LP_sum_25 M R9 F') z a j u) (fun r x => r = y ∧ x.1 9 = u.1 9))
      unfold B_X11_sum_30 B_sum_25
      refine pq_if (fun c => ?_) (fun c => ?_)
      · refine pq_m (hR z) (fun y _ hy => pp_rd ?_)
        rw [row11, if_pos c]
        exact hy
      · have c' : ¬ (mI v (169 * q + y) 7).toInt ≤ j.toInt := fun z => c (Int32.le_iff_toInt_le.mpr z)
        have hV2 : VY v u q s T y k a j := ⟨y1, y2, y3, y4, y5, y6, j0, by omega, yv, yq⟩
        refine pq_bc (pq_m (num_T (M := M) hV2 hM hI) (fun z2 w2 h2 => ?_))
        rw [h2.1]
        have s1 : (j + 1).toInt = j.toInt + 1 := by rw [tI_add (by omega) (by omega), e1]
        refine pq_m (ih F' (31 * z + z2) (j + 1) (by omega) (by omega)) (fun y _ hy => pp_rd ?_)
        rw [row11, if_neg c]
        refine pp_bn (pp_m h2.2 (fun r3 x3 h3 => ?_))
        rw [h3.1, h3.2]
        exact hy
theorem sum_115 {r : Nat} (hc9 : (mI v (169 * q + y) 9).toInt = (c : Int)) (hsz : c + (mI v (169 * q + r) 7).toInt ≤ 2000) (hM : ∀ c, c < 2000 → cB v 235 c = u.2.2.2 82 c) (h38 : (u.2.2.1 38 a.toNatClampNeg).toInt = ((bk v (169 * q + r) s : Nat) : Int)) (h39 : u.2.2.1 39 a.toNatClampNeg = mI v (169 * q + y) 9) (h31 : u.2.2.1 31 (bk v (169 * q + r) s) = mI v (169 * q + r) 7) {R4 : Int64 × Int32 × CSt → Option (Int64 × CSt)} {R9 : Int64 × Int32 × RSt → Option (Int64 × RSt)} (hR : ∀ z, pq (R4 (z, b + 1, v)) (fun y _ => pp (R9 (z, a + 1, u)) (fun r x => r = y ∧ x.1 9 = u.1 9))) : ∀ (F F' : Nat) (z : Int64) (j : Int32), 0 ≤ j.toInt → pq (LP_X11_sum_115 N R4 F (z, b, 169 * q + y, mI v (169 * q + r) 7, j, v)) (fun y _ => pp (LP_sum_103 M R9 F' (z, a, j, u)) (fun r x => r = y ∧ x.1 9 = u.1 9)) := by
  have e1 : (1 : Int32).toInt = 1 := by decide
  intro F
  induction F with
  | zero => exact fun _ _ _ _ _ _ e => nomatch e
  | succ F ih =>
    intro F' z j j0
    cases F' with
    | zero => exact fun _ _ _ _ _ e => nomatch e
    | succ F' =>
      show pq (B_X11_sum_115 N R4 (LP_X11_sum_115 N R4 F) z b (169 * q + y) (mI v (169 * q + r) 7) j v) (fun y _ => pp (B_sum_103 M R9 (LP_sum_103 M R9 F') z a j u) (fun r x => r = y ∧ x.1 9 = u.1 9))
      unfold B_X11_sum_115 B_sum_103
      refine pq_if (fun c => ?_) (fun c => ?_)
      · refine pq_m (hR z) (fun y _ hy => pp_rd (pp_rd ?_))
        rw [n_of h38, h31, if_pos c]
        exact hy
      · have c' : ¬ (mI v (169 * q + r) 7).toInt ≤ j.toInt := fun z => c (Int32.le_iff_toInt_le.mpr z)
        obtain ⟨d, hd1, hd2⟩ : ∃ d : Nat, (mI v (169 * q + y) 9 + j).toInt = (d : Int) ∧ d < 2000 := ⟨((mI v (169 * q + y) 9).toInt + j.toInt).toNat, by rw [tI_add (by omega) (by omega)]; omega, by omega⟩
        refine pq_bc (pq_m (at_T hd1 hd2) (fun z2 w2 h2 => ?_))
        rw [h2.1]
        have s1 : (j + 1).toInt = j.toInt + 1 := by rw [tI_add (by omega) (by omega), e1]
        refine pq_m (ih F' (31 * z + z2) (j + 1) (by omega)) (fun y _ hy => pp_rd (pp_rd ?_))
        rw [n_of h38, h31, if_neg c]
        refine pp_rd (pp_rd ?_)
        rw [h39, n_of hd1, ← hM d hd2, ← h2.2]
        exact hy
theorem sum_72 (hB : TBN N v u q s T) (hg : GKf v q T gk) (hq : cR v 0 = q) (h55 : (u.1 55).toInt = (s : Int)) (hs : s < 2) (hM : ∀ c, c < 2000 → cB v 235 c = u.2.2.2 82 c) : ∀ (F F' i : Nat) (z : Int64) (a b : Int32), b.toInt = (i : Int) → a.toInt = ((24 * s + i : Nat) : Int) → (i : Int) ≤ (u.2.2.1 42 s).toInt → pq (LP_X11_sum_72 N F (z, b, v)) (fun y _ => pp (LP_sum_79 M F' (z, a, u)) (fun r x => r = y ∧ x.1 9 = u.1 9)) := by
  have e1 : (1 : Int32).toInt = 1 := by decide
  have e24 : (24 : Int32).toInt = 24 := by decide
  have tb := hB.1
  have c := tb.2.2.2.2.2.2.1
  have c1 : pA v q 9 1 = u.2.2.1 42 s := c.2.1
  have c24 := c.2.2.2.2.2.2.1
  have n55 : (u.1 55).toNatClampNeg = s := n_of h55
  intro F
  induction F with
  | zero => exact fun _ _ _ _ _ _ _ _ _ _ e => nomatch e
  | succ F ih =>
    intro F' i z a b hb ha hi
    cases F' with
    | zero => exact fun _ _ _ _ _ e => nomatch e
    | succ F' =>
      show pq (B_X11_sum_72 N (LP_X11_sum_72 N F) z b v) (fun y _ => pp (B_sum_79 M (LP_sum_79 M F') z a u) (fun r x => r = y ∧ x.1 9 = u.1 9))
      unfold B_X11_sum_72 B_sum_79
      have m1 : (24 * u.1 55).toInt = ((24 * s : Nat) : Int) := by rw [tI_mul (by rw [e24, h55]; omega) (by rw [e24, h55]; omega), e24, h55]; omega
      have m2 : (24 * u.1 55 + u.2.2.1 42 s).toInt = 24 * (s : Int) + (u.2.2.1 42 s).toInt := by rw [tI_add (by omega) (by omega), m1]; omega
      refine pq_ok (fun _ => pq_bc ?_)
      unfold F_X6_ofSort B_X6_ofSort_0
      refine pq_rd (pq_some ?_)
      rw [hq, show pA v q 9 (1 : Int32).toNatClampNeg = u.2.2.1 42 s from c1]
      refine pq_if (fun d => pq_some ?_) (fun d => ?_)
      · have := Int32.le_iff_toInt_le.mp d
        refine pp_rd ?_
        rw [n55, if_pos (Int32.le_iff_toInt_le.mpr (by omega))]
        exact pp_some ⟨rfl, rfl⟩
      · have d' : ¬ (u.2.2.1 42 s).toInt ≤ b.toInt := fun z => d (Int32.le_iff_toInt_le.mpr z)
        obtain ⟨y, y1, y2, y3, hnth⟩ := k_nthG (N := N) (l1 := b) (so := 1) (o := 1) tb (by decide) (by decide) (by rw [c1]; omega)
        obtain ⟨k, r, K, F0, i1, i2, i3, i4, i5, i6, i7, i8, i9, i10, i11, i12, i13, i14, i15, i16, i17, i18, i19, i20⟩ := ins_T hB hg y1 y2
        have ek : k = i := by omega
        subst ek
        have na : a.toNatClampNeg = 24 * s + k := n_of ha
        refine pq_ok (fun _ => pq_bc (pq_m hnth (fun r5 w5 h5 => pq_ok (fun _ => ?_))))
        rw [h5.1, h5.2, hq]
        refine pq_ok (fun _ => pq_bc (pq_m (k2_name i4 tb.1 i3) (fun r6 w6 h6 => pq_ok (fun _ => ?_))))
        rw [h6.1, h6.2]
        have sa : (a + 1).toInt = ((24 * s + (k + 1) : Nat) : Int) := by rw [tI_add (by omega) (by omega), e1]; omega
        have sb_ : (b + 1).toInt = ((k + 1 : Nat) : Int) := by rw [tI_add (by omega) (by omega), e1]; omega
        refine pq_m (sum_115 (u := u) (M := M) (s := s) (a := a) (b := b) (r := r) (c := (mI v (169 * q + y) 9).toNatClampNeg) (R9 := LP_sum_79 M F') (nat_cl i18) (by have := nat_cl i18; omega) hM (by rw [na]; exact i6) (by rw [na]; exact i7) i14 (fun z => ih F' (k + 1) z (a + 1) (b + 1) sb_ sa (by omega)) N M z 0 (by decide)) (fun y _ hy => pp_rd ?_)
        rw [n55, if_neg (fun d2 => by have := Int32.le_iff_toInt_le.mp d2; omega)]
        exact hy
theorem sum_T (hB : TBN N v u q s T) (hg : GKf v q T gk) (hq : cR v 0 = q) (h55 : (u.1 55).toInt = (s : Int)) (hs : s < 2) (hM : ∀ c, c < 2000 → cB v 235 c = u.2.2.2 82 c) (hI : IMo v u) : ∀ (F F' i : Nat) (z : Int64) (a : Int32), a.toInt = (i : Int) → (i : Int) ≤ (u.2.2.1 19 s).toInt → pq (LP_X11_sum_4 N F (z, a, v)) (fun y _ => pp (LP_sum_9 M F' (z, a, u)) (fun r x => r = y ∧ x.1 9 = u.1 9)) := by
  have e0 : (0 : Int32).toInt = 0 := by decide
  have e1 : (1 : Int32).toInt = 1 := by decide
  have e24 : (24 : Int32).toInt = 24 := by decide
  have e160 : (160 : Int32).toInt = 160 := by decide
  have tb := hB.1
  have t2 := tb.2.1
  have c := tb.2.2.2.2.2.2.1
  have c0 : pA v q 9 0 = u.2.2.1 19 s := c.1
  have c19 := c.2.2.2.2.2.1
  have n55 : (u.1 55).toNatClampNeg = s := n_of h55
  intro F
  induction F with
  | zero => exact fun _ _ _ _ _ _ _ _ e => nomatch e
  | succ F ih =>
    intro F' i z a ha hi
    cases F' with
    | zero => exact fun _ _ _ _ _ e => nomatch e
    | succ F' =>
      show pq (B_X11_sum_4 N (LP_X11_sum_4 N F) z a v) (fun y _ => pp (B_sum_9 M (LP_sum_9 M F') z a u) (fun r x => r = y ∧ x.1 9 = u.1 9))
      unfold B_X11_sum_4 B_sum_9
      refine pq_ok (fun _ => pq_bc ?_)
      unfold F_X6_ofSort B_X6_ofSort_0
      refine pq_rd (pq_some ?_)
      rw [hq, show pA v q 9 (0 : Int32).toNatClampNeg = u.2.2.1 19 s from c0]
      refine pq_if (fun d => ?_) (fun d => ?_)
      · have m1 : (24 * u.1 55).toInt = ((24 * s + 0 : Nat) : Int) := by rw [tI_mul (by rw [e24, h55]; omega) (by rw [e24, h55]; omega), e24, h55]; omega
        have := c.2.2.2.2.2.2.1
        refine pq_m (sum_72 (M := M) hB hg hq h55 hs hM N M 0 z (24 * u.1 55) 0 e0 m1 (by omega)) (fun y _ hy => pp_rd ?_)
        rw [n55, if_pos d]
        exact hy
      · have d' : ¬ (u.2.2.1 19 s).toInt ≤ a.toInt := fun z => d (Int32.le_iff_toInt_le.mpr z)
        obtain ⟨y, y1, y2, y3, hnth⟩ := k_nthG (N := N) (l1 := a) (so := 0) (o := 0) tb (by decide) (by decide) (by rw [c0]; omega)
        have x160 : (160 * (u.1 55) + a).toNatClampNeg = 160 * s + i := by
          refine n_of ?_
          have m1 : (160 * u.1 55).toInt = ((160 * s : Nat) : Int) := by rw [tI_mul (by rw [e160, h55]; omega) (by rw [e160, h55]; omega), e160, h55]; omega
          rw [tI_add (by omega) (by omega), m1]
          omega
        have yv := tb.2.2.2.2.1 y y1 y2
        have yq := tb.2.2.2.2.2.2.2.1 y y1 y2
        have hV : VY v u q s T y i a 0 := ⟨y1, y2, by omega, by omega, by omega, x160, by rw [e0]; exact Int.le_refl _, by rw [e0]; have := yq.1; omega, yv, yq⟩
        refine pq_ok (fun _ => pq_bc (pq_m hnth (fun r5 w5 h5 => pq_ok (fun _ => ?_))))
        rw [h5.1, h5.2]
        have sa : (a + 1).toInt = ((i + 1 : Nat) : Int) := by rw [tI_add (by omega) (by omega), e1]; omega
        refine pq_m (sum_30 (M := M) (R9 := LP_sum_9 M F') hV hq hM hI (fun z => ih F' (i + 1) z (a + 1) sa (by omega)) N M z 0 (by decide) (by rw [e0]; have := yq.1; omega)) (fun y _ hy => pp_rd ?_)
        rw [n55, if_neg d]
        exact hy
theorem sum_same {r y : Int64} (hB : TBN N v u q s T) (hg : GKf v q T gk) (hq : cR v 0 = q) (h55 : (u.1 55).toInt = (s : Int)) (hs : s < 2) (hM : ∀ c, c < 2000 → cB v 235 c = u.2.2.2 82 c) (hI : IMo v u) (h9 : F_X11_sum N v = some (y, w)) (h8 : F_sum M u = some (r, x)) : y = r ∧ x.1 9 = 0 := by
  have e0 : (0 : Int32).toInt = 0 := by decide
  have hB' : TBN N v (sI u 9 0) q s T := hB
  have c := hB.1.2.2.2.2.2.2.1.2.2.2.2.2.1.1
  have := sum_T (M := M) (u := sI u 9 0) hB' hg hq h55 hs hM hI N M 0 0 0 e0 (show ((0 : Nat) : Int) ≤ (u.2.2.1 19 s).toInt by omega) _ _ h9 _ _ h8
  exact ⟨this.1.symm, this.2⟩
end N21b
/-! trace: what is traced, last numbers too. -/
section N22a
variable {v w : CSt} {u x : RSt} {q s T N M y k n i0 m : Nat} {l1 l2 l3 : Int32} {gk : Nat → Int32}
theorem ks_lv9 {a : Int32} (hn : (cI v 9).toInt = (n : Int)) (h16 : n ≤ 16) (ha : a.toInt = (i0 : Int)) (hi : i0 < n) : pq (F_X10_leave N a v) (fun _ w => ∀ j, j + 1 < n → cB w 222 j = cB v 222 (sh i0 j)) := by
  have e1 : (1 : Int32).toInt = 1 := by decide
  have e0 : (0 : Int32).toInt = 0 := by decide
  unfold F_X10_leave B_X10_leave_0
  refine pq_lp (Z := fun _ _ w => ∀ j, j + 1 < n → cB w 222 j = cB v 222 (sh i0 j)) (fun (y : Int32 × CSt) => cI y.2 9 = cI v 9 ∧ ∃ i : Nat, y.1.toInt = (i : Int) ∧ i0 ≤ i ∧ i < n ∧ (∀ j, j < i → cB y.2 222 j = cB v 222 (sh i0 j)) ∧ ∀ j, i ≤ j → cB y.2 222 j = cB v 222 j) ?_ N _ ⟨rfl, i0, ha, Nat.le_refl _, hi, fun j hj => ?_, fun _ _ => rfl⟩
  · rintro R ⟨y1, y2⟩ ⟨h1, i, h2, h3, h4, h5, h6⟩ ih
    dsimp only at h1 h2 h5 h6
    show pq (B_X10_leave_2 N R y1 y2) _
    unfold B_X10_leave_2 B_X10_leave_64
    have s1 : (y1 + 1).toInt = ((i + 1 : Nat) : Int) := by rw [tI_add (by omega) (by omega), e1]; omega
    rw [if_neg (fun c => by have := Int32.lt_iff_toInt_lt.mp c; omega)]
    refine pq_if (fun c => pq_pc (pq_some (fun j hj => ?_))) (fun c => ?_)
    · have c : cI y2 9 ≤ y1 + 1 := c
      have := Int32.le_iff_toInt_le.mp c
      rw [h1] at this
      exact h5 j (by omega)
    · have c' : (i + 1 : Nat) < n := by
        have : ¬ (cI y2 9).toInt ≤ (y1 + 1).toInt := fun z => c (Int32.le_iff_toInt_le.mpr z)
        rw [h1] at this
        omega
      have p1 := h6 (i + 1) (by omega)
      refine pq_rd (pq_wc (pq_rd (pq_wc (pq_rd (pq_wc ?_)))))
      rw [n_of s1, n_of h2]
      refine ih _ ⟨h1, i + 1, s1, by omega, c', fun j hj => ?_, fun j hj => ?_⟩
      · by_cases z : j = i
        · subst z
          have es : sh i0 j = j + 1 := if_pos h3
          rw [es]
          show (if j = j then cB y2 222 (j + 1) else cB y2 222 j) = _
          rw [if_pos rfl]; exact p1
        · show (if j = i then cB y2 222 (i + 1) else cB y2 222 j) = _
          rw [if_neg z]; exact h5 j (by omega)
      · show (if j = i then cB y2 222 (i + 1) else cB y2 222 j) = _
        rw [if_neg (by omega)]; exact h6 j (by omega)
  · have es : sh i0 j = j := if_neg (by omega)
    rw [es]
theorem y_lv9 {a : Int32} (hn : (u.1 98).toInt = (n : Int)) (h16 : n ≤ 16) (ha : a.toInt = (i0 : Int)) (hi : i0 ≤ n) : pp (LP_trace_164 N N (a, u)) (fun _ w => ∀ j, j < n → w.2.2.2 97 j = u.2.2.2 97 (sh i0 j)) := by
  have e1 : (1 : Int32).toInt = 1 := by decide
  refine pp_lp (Z := fun _ _ w => ∀ j, j < n → w.2.2.2 97 j = u.2.2.2 97 (sh i0 j)) (fun (y : Int32 × RSt) => y.2.1 98 = u.1 98 ∧ ∃ i : Nat, y.1.toInt = (i : Int) ∧ i0 ≤ i ∧ i ≤ n ∧ (∀ j, j < i → y.2.2.2.2 97 j = u.2.2.2 97 (sh i0 j)) ∧ ∀ j, i ≤ j → y.2.2.2.2 97 j = u.2.2.2 97 j) ?_ N _ ⟨rfl, i0, ha, Nat.le_refl _, hi, fun j hj => ?_, fun _ _ => rfl⟩
  · rintro R ⟨y1, y2⟩ ⟨h1, i, h2, h3, h4, h5, h6⟩ ih
    dsimp only at h1 h2 h5 h6
    show pp (B_trace_164 N R y1 y2) _
    unfold B_trace_164
    have s1 : (y1 + 1).toInt = ((i + 1 : Nat) : Int) := by rw [tI_add (by omega) (by omega), e1]; omega
    refine pp_if (fun c => pp_some (fun j hj => ?_)) (fun c => ?_)
    · have := Int32.le_iff_toInt_le.mp c
      rw [h1] at this
      exact h5 j (by omega)
    · have c' : i < n := by
        have : ¬ (y2.1 98).toInt ≤ y1.toInt := fun z => c (Int32.le_iff_toInt_le.mpr z)
        rw [h1] at this
        omega
      have p1 := h6 (i + 1) (by omega)
      refine pp_rd (pp_wr (pp_rd (pp_wr (pp_rd (pp_wr ?_)))))
      rw [n_of s1, n_of h2]
      refine ih _ ⟨h1, i + 1, s1, by omega, by omega, fun j hj => ?_, fun j hj => ?_⟩
      · by_cases z : j = i
        · subst z
          have es : sh i0 j = j + 1 := if_pos h3
          rw [es]
          show (if j = j then y2.2.2.2 97 (j + 1) else y2.2.2.2 97 j) = _
          rw [if_pos rfl]; exact p1
        · show (if j = i then y2.2.2.2 97 (i + 1) else y2.2.2.2 97 j) = _
          rw [if_neg z]; exact h5 j (by omega)
      · show (if j = i then y2.2.2.2 97 (i + 1) else y2.2.2.2 97 j) = _
        rw [if_neg (by omega)]; exact h6 j (by omega)
  · have es : sh i0 j = j := if_neg (by omega)
    rw [es]
theorem trace_9 (h : TBM v u q s T) (hL : TL v u) (hq : cR v 0 = q) (h55 : (u.1 55).toInt = (s : Int)) (hs : s < 2) (hb : l3 = 0 ∨ l3 = 1) (hM : ∀ c, c < 2000 → cB v 235 c = u.2.2.2 82 c) (hI : IMo v u) (hT : LTq v u q T) : pq (F_X11_trace N l1 l2 l3 v) (fun y w => pp (F_trace M l1 l2 l3 u) (fun r x => LTq w x q T)) := by
  have e1 : (1 : Int32).toInt = 1 := by decide
  have e16 : (16 : Int32).toInt = 16 := by decide
  have t9 : ∀ a : Int32, TL v (sI u 9 a) := fun a => hL
  obtain ⟨t1, t2, t3, t4⟩ := id hL
  obtain ⟨n, hn⟩ : ∃ n : Nat, (cI v 9).toInt = (n : Int) := ⟨(cI v 9).toInt.toNat, by omega⟩
  unfold F_X11_trace B_X11_trace_0
  refine pq_bc (pq_m (hasP_T (M := M) h hq h55 hs) (fun r w hw => ?_))
  obtain ⟨e, hp⟩ := hw
  rw [e]
  unfold F_trace B_trace_0
  by_cases r0 : r = 0
  · rw [if_pos r0]
    refine pq_some (pp_bn (pp_m (pp_and hp (hp_st (M := M) (l1 := l1) (l2 := l2) (u := u))) (fun r' x hx => ?_)))
    obtain ⟨hx, hk1, hk2⟩ := hx
    rcases hx with ⟨-, a2, a3⟩ | ⟨a1, -⟩
    · rw [a2, if_pos rfl]
      exact pp_some (LTq_fr hT h.2.1 (fun _ _ _ => rfl) rfl rfl rfl rfl (by rw [hk2]))
    · rw [a1] at r0
      exact absurd r0 (by decide)
  · rw [if_neg r0]
    refine pq_bc (pq_m (ks_index hn (by omega)) (fun ri w2 h2 => ?_))
    obtain ⟨ew, i0, hf, hi0⟩ := h2
    rw [ew]
    refine pq_sw (pp_bn (pp_m hp (fun r' x hx => ?_)))
    rcases hx with ⟨a1, -⟩ | ⟨-, a2, a3, y, k, hy, hn2⟩
    · exact absurd a1 r0
    rw [a2, a3, if_neg (by decide)]
    refine y_index (v := v) (n := n) (t9 0) hn (fun l4 i1 hf1 hl4 => ?_)
    have ei := fnd_1 hf1 hf
    rw [ei] at hl4
    have u98 : ((sI u 9 0).1 98).toInt = (n : Int) := by show (u.1 98).toInt = _; rw [← t1]; exact hn
    unfold B_trace_51
    rcases hi0 with ⟨z0, z1⟩ | ⟨z0, z1⟩
    · rw [if_pos (Int32.le_iff_toInt_le.mpr (by omega)), z1]
      unfold B_trace_65
      rcases hb with b0 | b0
      · rw [b0, if_pos rfl, if_pos rfl]
        unfold B_trace_90 B_X11_trace_63 B_X11_trace_75
        rw [if_neg (show ¬ (0 : Int32) < (sI u 9 0).1 9 by show ¬ (0 : Int32) < 0; decide), if_pos rfl, if_pos rfl, if_pos rfl]
        exact pp_some (pq_some hT)
      · rw [b0, if_neg (show ¬ (1 : Int32) = 0 by decide), if_pos (show (0 : Int32) = 0 from rfl), if_neg (show ¬ (1 : Int32) = 0 by decide), if_pos (show (-1 : Int32) = -1 from rfl)]
        by_cases c16 : n = 16
        · rw [if_pos (tI_eq.mpr (by rw [u98, e16]; omega)), if_neg (fun z => by have := Int32.lt_iff_toInt_lt.mp z; omega)]
          refine pp_pu ?_
          unfold B_trace_90
          rw [if_pos (show (0 : Int32) < (sI (sI u 9 0) 9 2).1 9 by show (0 : Int32) < 2; decide)]
          exact pp_some (pq_some hT)
        · rw [if_neg (fun z => c16 (by have := congrArg Int32.toInt z; rw [u98, e16] at this; omega)), if_pos (Int32.lt_iff_toInt_lt.mpr (by omega))]
          unfold B_trace_90 B_X11_trace_63 B_X11_trace_75
          rw [if_neg (show ¬ (0 : Int32) < (sI u 9 0).1 9 by show ¬ (0 : Int32) < 0; decide), if_neg (by decide), if_neg (by decide), if_pos rfl, if_neg (by decide), if_neg (by decide)]
          have nm := num_T (N := N) (M := M) (u := sA (sA (sI u 9 0) 95 l4.toNatClampNeg l1) 96 l4.toNatClampNeg l2) (v := v) (q := q) (s := s) (T := T) (y := y) (k := k) (l1 := l1) (l2 := l2) hy hM hI
          have nm2 : pq (F_X2_numberOf N (169 * q + y) l2 v) (fun z w => pp (F_numberOf M l1 l2 (sA (sA (sI u 9 0) 95 l4.toNatClampNeg l1) 96 l4.toNatClampNeg l2)) (fun r x => w = v ∧ x = sA (sA (sI u 9 0) 95 l4.toNatClampNeg l1) 96 l4.toNatClampNeg l2 ∧ r = z)) := pq_m nm (fun z w hz => pp_m hz.2 (fun r x hx => ⟨hz.1, hx⟩))
          refine pp_wr (pp_wr (pp_bn (pp_m (pp_sw nm2) (fun r5 x5 h5 => pp_wr (pp_pu (pp_some ?_))))))
          refine pq_ok (fun _ => ?_)
          rw [hq]
          refine pq_bc (pq_m (hn2 N) (fun r6 w6 h6 => pq_ok (fun _ => pq_bc ?_)))
          rw [h6.1, h6.2]
          refine pq_m h5 (fun r7 w7 h7 => pq_bc ?_)
          obtain ⟨h71, h72, h73⟩ := h7
          rw [h71, h72, h73, n_of hl4]
          unfold F_X10_begin B_X10_begin_0
          rw [if_neg (fun z => by have := Int32.le_iff_toInt_le.mp z; omega)]
          refine pq_wc (pq_wc (pq_wc (pq_pc (pq_some (pq_some (fun i hi => ?_))))))
          have s1 : (cI v 9 + 1).toInt = ((n + 1 : Nat) : Int) := by rw [tI_add (by omega) (by omega), e1]; omega
          have hi : (i : Int) < (cI v 9 + 1).toInt := hi
          have e9 : (cI v 9).toNatClampNeg = n := n_of hn
          have g1 : ∀ a b : Int64, a = b → (if i = (cI v 9).toNatClampNeg then r7 else a) = (if i = i0 then r7 else b) := by
            intro a b hab
            rw [e9, z0, hab]
          by_cases z : i = n
          · refine ⟨?_, y, hy.1, hy.2.1, ?_, ?_, ?_⟩
            · show (if i = (cI v 9).toNatClampNeg then r7 else cB v 222 i) = (if i = i0 then r7 else u.2.2.2 97 i)
              rw [e9, z0, if_pos z, if_pos z]
            · show mI v (169 * q + y) 4 = (if i = (cI v 9).toNatClampNeg then l1 else cA v 220 i)
              rw [e9, if_pos z]
              exact tI_eq.mpr (hy.2.2.2.1.trans hy.2.2.1)
            · show 0 ≤ (if i = (cI v 9).toNatClampNeg then l2 else cA v 221 i).toInt
              rw [e9, if_pos z]
              exact hy.2.2.2.2.2.2.1
            · show (if i = (cI v 9).toNatClampNeg then l2 else cA v 221 i).toInt < (mI v (169 * q + y) 7).toInt
              rw [e9, if_pos z]
              exact hy.2.2.2.2.2.2.2.1
          · obtain ⟨d1, y', d2, d3, d4, d5, d6⟩ := hT i (by omega)
            refine ⟨?_, y', d2, d3, ?_, ?_, ?_⟩
            · show (if i = (cI v 9).toNatClampNeg then r7 else cB v 222 i) = (if i = i0 then r7 else u.2.2.2 97 i)
              rw [e9, z0, if_neg z, if_neg z]
              exact d1
            · show mI v (169 * q + y') 4 = (if i = (cI v 9).toNatClampNeg then l1 else cA v 220 i)
              rw [e9, if_neg z]
              exact d4
            · show 0 ≤ (if i = (cI v 9).toNatClampNeg then l2 else cA v 221 i).toInt
              rw [e9, if_neg z]
              exact d5
            · show (if i = (cI v 9).toNatClampNeg then l2 else cA v 221 i).toInt < (mI v (169 * q + y') 7).toInt
              rw [e9, if_neg z]
              exact d6
    · have rn : ¬ ri = -1 := fun z => by rw [z] at z1; have em : (-1 : Int32).toInt = -1 := by decide
                                         omega
      rw [if_neg (fun z => by have := Int32.le_iff_toInt_le.mp z; omega)]
      unfold B_trace_65
      rcases hb with b0 | b0
      · rw [b0, if_pos rfl, if_pos rfl]
        unfold B_trace_90 B_X11_trace_63 B_X11_trace_75
        rw [if_neg (show ¬ (0 : Int32) < (sI u 9 0).1 9 by show ¬ (0 : Int32) < 0; decide), if_neg (by decide), if_pos rfl, if_neg rn, if_neg (by decide), if_pos rfl]
        have s1 : ((sI u 9 0).1 98 - 1).toInt = ((n - 1 : Nat) : Int) := by rw [tI_sub (by omega) (by omega), e1]; omega
        refine pp_pu (pp_m (y_lv9 (u := sI (sI u 9 0) 98 ((sI u 9 0).1 98 - 1)) (n := n - 1) (i0 := i0) s1 (by omega) hl4 (by omega)) (fun r5 x5 g3 => ?_))
        refine pq_bc (pq_m (pq_and (ks_leave hn (by omega) z1 z0) (pq_and (ks_lv9 hn (by omega) z1 z0) (kt_F_X10_leave (l1 := ri)))) (fun _ w6 h6 => pq_some (fun i hi => ?_)))
        obtain ⟨⟨k1, k2⟩, k3, k4⟩ := h6
        have c1 : (cI v 9 - 1).toInt = ((n - 1 : Nat) : Int) := by rw [tI_sub (by omega) (by omega), e1]; omega
        rw [k1] at hi
        obtain ⟨a1, a2⟩ := k2 i (by omega)
        have hsh : (sh i0 i : Int) < (cI v 9).toInt := by
          unfold sh
          split <;> omega
        obtain ⟨d1, y', d2, d3, d4, d5, d6⟩ := hT (sh i0 i) hsh
        have hm : mI w6 = mI v := k4.2.2.2.1
        refine ⟨?_, y', d2, by rw [hm]; exact d3, by rw [hm, a1]; exact d4, by rw [a2]; exact d5, by rw [hm, a2]; exact d6⟩
        rw [k3 i (by omega), g3 i (by omega)]
        exact d1
      · rw [b0, if_neg (by decide), if_neg (by decide), if_neg (by decide), if_neg rn]
        unfold B_trace_90 B_X11_trace_63 B_X11_trace_75
        rw [if_neg (show ¬ (0 : Int32) < (sI u 9 0).1 9 by show ¬ (0 : Int32) < 0; decide), if_pos rfl, if_neg rn, if_pos rfl]
        exact pp_some (pq_some hT)
theorem trace_J9s {y : Sum Nat Int32} {r : Int32} (tb : TBM v u q s T) (hL : TL v u) (hq : cR v 0 = q) (h55 : (u.1 55).toInt = (s : Int)) (hs : s < 2) (hb : l3 = 0 ∨ l3 = 1) (hj : J9s m v u q s T gk) (h9 : F_X11_trace N l1 l2 l3 v = some (y, w)) (h8 : F_trace M l1 l2 l3 u = some (r, x)) (hr : sso s u x) : J9s (m + 1) w x q s T gk := by
  obtain ⟨a1, a2, a3, a4, a5, a6⟩ := hj
  obtain ⟨b1, b2, b3⟩ := e6_F_X11_trace _ _ h9
  obtain ⟨c1, c2, c3⟩ := e7_F_trace _ _ h8
  have ht := (e2_F_X11_trace _ _ h9).2
  refine ⟨MEq_fr a1 (b3 235 (by decide)) (c3 82 (by decide)), TKq_fr a2 tb.2.2.2.2.2.2.1.2.2.2.2.2.2.2.1.2 (fun j k _ _ => ?_) hr (c2 88 (by decide)), trace_9 tb hL hq h55 hs hb a1.1 a4.o a3 _ _ h9 _ _ h8, fun i hi => ?_, EVz_fr a5 (b1 10 (by decide)) (b1 11 (by decide)) (fun k hk => b2 k ?_) (b3 226 (by decide)) (c1 103 (by decide)) (fun k hk => c2 k ?_) (c3 102 (by decide)), CLq_fr a6 (b1 1 (by decide)) (b1 2 (by decide)) (c1 104 (by decide)) (c1 105 (by decide))⟩
  · show w.2.2.2.2.2.2.2.1 _ _ = v.2.2.2.2.2.2.2.1 _ _
    rw [ht]
  · rw [b2 211 (by decide), b2 212 (by decide), b2 213 (by decide), b2 214 (by decide), b2 215 (by decide), b2 216 (by decide), b2 217 (by decide), b2 218 (by decide), c2 84 (by decide), c2 85 (by decide), c2 86 (by decide), c2 87 (by decide)]
    exact a4 i hi
  · simp only [qfA, List.mem_cons, List.not_mem_nil, or_false] at hk ⊢
    omega
  · simp only [rgA, List.mem_cons, List.not_mem_nil, or_false] at hk ⊢
    omega
end N22a
/-! A tick: inputs taken, a task run, outputs given. -/
def fA (a : List Nat) (v w : CSt) : Prop := w.1 = v.1 ∧ w.2.1 = v.2.1 ∧ (∀ k, k ∉ a → cA w k = cA v k) ∧ w.2.2.2 = v.2.2.2
def fR (a : List Nat) (u w : RSt) : Prop := w.1 = u.1 ∧ w.2.1 = u.2.1 ∧ (∀ k, k ∉ a → w.2.2.1 k = u.2.2.1 k) ∧ w.2.2.2 = u.2.2.2
section N23a
variable {v w : CSt} {u x : RSt} {q s T N M n y k c : Nat} {l1 l2 l3 l4 a b : Int32} {gk : Nat → Int32}
theorem fA_rf {l : List Nat} : fA l v v := ⟨rfl, rfl, fun _ _ => rfl, rfl⟩
theorem fR_rf {l : List Nat} : fR l u u := ⟨rfl, rfl, fun _ _ => rfl, rfl⟩
theorem fA_x {l : List Nat} {j i : Nat} {z : Int32} (h : fA l v w) (hj : j ∈ l) : fA l v (xA w j i z) := ⟨h.1, h.2.1, fun k hk => by
  show (if k = j then _ else cA w k) = cA v k
  rw [if_neg (fun e : k = j => hk (by rw [e]; exact hj))]
  exact h.2.2.1 k hk, h.2.2.2⟩
theorem fR_x {l : List Nat} {j i : Nat} {z : Int32} (h : fR l u x) (hj : j ∈ l) : fR l u (sA x j i z) := ⟨h.1, h.2.1, fun k hk => by
  show (if k = j then _ else x.2.2.1 k) = u.2.2.1 k
  rw [if_neg (fun e : k = j => hk (by rw [e]; exact hj))]
  exact h.2.2.1 k hk, h.2.2.2⟩
/-- a byte with some bits forced -/
def fcq (a m f : Int32) : Int32 := (a &&& (m ^^^ (-1))) ||| f
theorem take_T : pq (F_X1_takeInputs N v) (fun _ w => fA [213] v w ∧ ∀ i, i < 64 → cA w 213 i = fcq (cA v 211 i) (cA v 215 i) (cA v 217 i)) := by
  have e1 : (1 : Int32).toInt = 1 := by decide
  have e64 : (64 : Int32).toInt = 64 := by decide
  unfold F_X1_takeInputs B_X1_takeInputs_0
  refine pq_lp (Z := fun _ _ w => fA [213] v w ∧ ∀ i, i < 64 → cA w 213 i = fcq (cA v 211 i) (cA v 215 i) (cA v 217 i)) (fun (y : Int32 × CSt) => fA [213] v y.2 ∧ ∃ j : Nat, y.1.toInt = (j : Int) ∧ j ≤ 64 ∧ ∀ i, i < j → cA y.2 213 i = fcq (cA v 211 i) (cA v 215 i) (cA v 217 i)) ?_ N _ ⟨fA_rf, 0, z32, by omega, fun i hi => absurd hi (Nat.not_lt_zero i)⟩
  rintro R ⟨y1, y2⟩ ⟨h1, j, h2, h3, h4⟩ ih
  dsimp only at h1 h2 h4
  show pq (B_X1_takeInputs_2 N R y1 y2) _
  unfold B_X1_takeInputs_2
  refine pq_if (fun c => pq_some ⟨h1, fun i hi => h4 i ?_⟩) (fun c => ?_)
  · have := Int32.le_iff_toInt_le.mp c
    omega
  · have c' : ¬ (64 : Int) ≤ y1.toInt := fun z => c (Int32.le_iff_toInt_le.mpr (by omega))
    refine pq_ix (fun _ => pq_rd (pq_ix (fun _ => pq_rd (pq_ix (fun _ => pq_ix (fun _ => pq_rd (pq_wc ?_)))))))
    rw [n_of h2]
    refine ih _ ⟨fA_x h1 (List.mem_singleton.mpr rfl), j + 1, ?_, by omega, fun i hi => ?_⟩
    · show (y1 + 1).toInt = _
      rw [tI_add (by omega) (by omega), e1]
      omega
    · show (if i = j then fcq (cA y2 211 j) (cA y2 215 j) (cA y2 217 j) else cA y2 213 i) = _
      by_cases z : i = j
      · rw [if_pos z, z, h1.2.2.1 211 (by decide), h1.2.2.1 215 (by decide), h1.2.2.1 217 (by decide)]
      · rw [if_neg z]
        exact h4 i (by omega)
theorem give_T : pq (F_X1_giveOutputs N v) (fun _ w => fA [212, 214] v w ∧ ∀ i, i < 64 → cA w 214 i = fcq (cA v 214 i) (cA v 216 i) (cA v 218 i) ∧ cA w 212 i = fcq (cA v 214 i) (cA v 216 i) (cA v 218 i)) := by
  have e1 : (1 : Int32).toInt = 1 := by decide
  have e64 : (64 : Int32).toInt = 64 := by decide
  unfold F_X1_giveOutputs B_X1_giveOutputs_0
  refine pq_lp (Z := fun _ _ w => fA [212, 214] v w ∧ ∀ i, i < 64 → cA w 214 i = fcq (cA v 214 i) (cA v 216 i) (cA v 218 i) ∧ cA w 212 i = fcq (cA v 214 i) (cA v 216 i) (cA v 218 i)) (fun (y : Int32 × CSt) => fA [212, 214] v y.2 ∧ ∃ j : Nat, y.1.toInt = (j : Int) ∧ j ≤ 64 ∧ (∀ i, i < j → cA y.2 214 i = fcq (cA v 214 i) (cA v 216 i) (cA v 218 i) ∧ cA y.2 212 i = fcq (cA v 214 i) (cA v 216 i) (cA v 218 i)) ∧ ∀ i, j ≤ i → cA y.2 214 i = cA v 214 i) ?_ N _ ⟨fA_rf, 0, z32, by omega, fun i hi => absurd hi (Nat.not_lt_zero i), fun _ _ => rfl⟩
  rintro R ⟨y1, y2⟩ ⟨h1, j, h2, h3, h4, h5⟩ ih
  dsimp only at h1 h2 h4 h5
  show pq (B_X1_giveOutputs_2 N R y1 y2) _
  unfold B_X1_giveOutputs_2
  refine pq_if (fun c => pq_some ⟨h1, fun i hi => h4 i ?_⟩) (fun c => ?_)
  · have := Int32.le_iff_toInt_le.mp c
    omega
  · have c' : ¬ (64 : Int) ≤ y1.toInt := fun z => c (Int32.le_iff_toInt_le.mpr (by omega))
    refine pq_ix (fun _ => pq_rd (pq_ix (fun _ => pq_rd (pq_ix (fun _ => pq_ix (fun _ => pq_rd (pq_wc (pq_ix (fun _ => pq_ix (fun _ => pq_rd (pq_wc ?_)))))))))))
    rw [n_of h2]
    have ev : fcq (cA y2 214 j) (cA y2 216 j) (cA y2 218 j) = fcq (cA v 214 j) (cA v 216 j) (cA v 218 j) := by
      rw [h5 j (Nat.le_refl _), h1.2.2.1 216 (by decide), h1.2.2.1 218 (by decide)]
    refine ih _ ⟨fA_x (fA_x h1 (by decide)) (by decide), j + 1, ?_, by omega, fun i hi => ⟨?_, ?_⟩, fun i hi => ?_⟩
    · show (y1 + 1).toInt = _
      rw [tI_add (by omega) (by omega), e1]
      omega
    · show (if i = j then fcq (cA y2 214 j) (cA y2 216 j) (cA y2 218 j) else cA y2 214 i) = _
      by_cases z : i = j
      · rw [if_pos z, z, ev]
      · rw [if_neg z]
        exact (h4 i (by omega)).1
    · show (if i = j then (if j = j then fcq (cA y2 214 j) (cA y2 216 j) (cA y2 218 j) else cA y2 214 j) else cA y2 212 i) = _
      by_cases z : i = j
      · rw [if_pos z, if_pos rfl, z, ev]
      · rw [if_neg z]
        exact (h4 i (by omega)).2
    · show (if i = j then _ else cA y2 214 i) = _
      rw [if_neg (by omega)]
      exact h5 i (by omega)
theorem y_forces {o : Nat} (ho : a.toInt = (o : Int)) (ho2 : o ≤ 64) : pp (F_forces M a u) (fun _ x => fR [85] u x ∧ (∀ i, o ≤ i → i < o + 64 → x.2.2.1 85 i = fcq (u.2.2.1 85 i) (u.2.2.1 86 i) (u.2.2.1 87 i)) ∧ ∀ i, ¬ (o ≤ i ∧ i < o + 64) → x.2.2.1 85 i = u.2.2.1 85 i) := by
  have e1 : (1 : Int32).toInt = 1 := by decide
  have e64 : (64 : Int32).toInt = 64 := by decide
  have s64 : (a + 64).toInt = ((o + 64 : Nat) : Int) := by rw [tI_add (by omega) (by omega)]; omega
  unfold F_forces B_forces_0
  refine pp_lp (Z := fun _ _ x => fR [85] u x ∧ (∀ i, o ≤ i → i < o + 64 → x.2.2.1 85 i = fcq (u.2.2.1 85 i) (u.2.2.1 86 i) (u.2.2.1 87 i)) ∧ ∀ i, ¬ (o ≤ i ∧ i < o + 64) → x.2.2.1 85 i = u.2.2.1 85 i) (fun (y : Int32 × Int32 × RSt) => y.1 = a ∧ fR [85] u y.2.2 ∧ ∃ j : Nat, y.2.1.toInt = (j : Int) ∧ o ≤ j ∧ j ≤ o + 64 ∧ (∀ i, o ≤ i → i < j → y.2.2.2.2.1 85 i = fcq (u.2.2.1 85 i) (u.2.2.1 86 i) (u.2.2.1 87 i)) ∧ ∀ i, ¬ (o ≤ i ∧ i < j) → y.2.2.2.2.1 85 i = u.2.2.1 85 i) ?_ M _ ⟨rfl, fR_rf, o, ho, Nat.le_refl _, by omega, fun i h1 h2 => absurd h2 (by omega), fun _ _ => rfl⟩
  rintro R ⟨y1, y2, y3⟩ ⟨h0, h1, j, h2, h3, h3', h4, h5⟩ ih
  dsimp only at h0 h1 h2 h4 h5
  rw [h0]
  show pp (B_forces_2 M R a y2 y3) _
  unfold B_forces_2
  refine pp_if (fun c => ?_) (fun c => ?_)
  · have := Int32.le_iff_toInt_le.mp c
    have ej : j = o + 64 := by omega
    subst ej
    exact pp_some ⟨h1, h4, h5⟩
  · have c' : ¬ ((o + 64 : Nat) : Int) ≤ y2.toInt := fun z => c (Int32.le_iff_toInt_le.mpr (by omega))
    refine pp_rd (pp_rd (pp_rd (pp_wr ?_)))
    rw [n_of h2]
    refine ih _ ⟨rfl, fR_x h1 (List.mem_singleton.mpr rfl), j + 1, ?_, by omega, by omega, fun i h6 h7 => ?_, fun i h6 => ?_⟩
    · show (y2 + 1).toInt = _
      rw [tI_add (by omega) (by omega), e1]
      omega
    · show (if i = j then fcq (y3.2.2.1 85 j) (y3.2.2.1 86 j) (y3.2.2.1 87 j) else y3.2.2.1 85 i) = _
      by_cases z : i = j
      · rw [if_pos z, z, h5 j (by omega), h1.2.2.1 86 (by decide), h1.2.2.1 87 (by decide)]
      · rw [if_neg z]
        exact h4 i h6 (by omega)
    · show (if i = j then _ else y3.2.2.1 85 i) = _
      rw [if_neg (by omega)]
      exact h5 i (by omega)
/-- row b copied to row a, in CPS: the two loops of a tick -/
theorem y_cpin {Q : Int32 → RSt → Prop} (kk : ∀ x, fR [85] u x → (∀ i, i < 64 → x.2.2.1 85 i = u.2.2.1 84 i) → (∀ i, 64 ≤ i → x.2.2.1 85 i = u.2.2.1 85 i) → pp (bn (F_forces M 0 x) fun _ u_65 => LP_ticks_35 M M (l1, 0, u_65)) Q) : pp (LP_ticks_4 M M (l1, 0, u)) Q := by
  have e1 : (1 : Int32).toInt = 1 := by decide
  have e64 : (64 : Int32).toInt = 64 := by decide
  refine pp_lp (Z := fun _ r x => Q r x) (fun (y : Int32 × Int32 × RSt) => y.1 = l1 ∧ fR [85] u y.2.2 ∧ ∃ j : Nat, y.2.1.toInt = (j : Int) ∧ j ≤ 64 ∧ (∀ i, i < j → y.2.2.2.2.1 85 i = u.2.2.1 84 i) ∧ ∀ i, j ≤ i → y.2.2.2.2.1 85 i = u.2.2.1 85 i) ?_ M _ ⟨rfl, fR_rf, 0, z32, by omega, fun i hi => absurd hi (Nat.not_lt_zero i), fun _ _ => rfl⟩
  rintro R ⟨y1, y2, y3⟩ ⟨h0, h1, j, h2, h3, h4, h5⟩ ih
  dsimp only at h0 h1 h2 h4 h5
  rw [h0]
  show pp (B_ticks_4 M R l1 y2 y3) _
  unfold B_ticks_4
  refine pp_if (fun c => ?_) (fun c => ?_)
  · have := Int32.le_iff_toInt_le.mp c
    exact kk y3 h1 (fun i hi => h4 i (by omega)) (fun i hi => h5 i (by omega))
  · have c' : ¬ (64 : Int) ≤ y2.toInt := fun z => c (Int32.le_iff_toInt_le.mpr (by omega))
    refine pp_rd (pp_wr ?_)
    rw [n_of h2]
    refine ih _ ⟨rfl, fR_x h1 (List.mem_singleton.mpr rfl), j + 1, ?_, by omega, fun i hi => ?_, fun i hi => ?_⟩
    · show (y2 + 1).toInt = _
      rw [tI_add (by omega) (by omega), e1]
      omega
    · show (if i = j then y3.2.2.1 84 j else y3.2.2.1 85 i) = _
      by_cases z : i = j
      · rw [if_pos z, z, h1.2.2.1 84 (by decide)]
      · rw [if_neg z]
        exact h4 i (by omega)
    · show (if i = j then _ else y3.2.2.1 85 i) = _
      rw [if_neg (by omega)]
      exact h5 i (by omega)
theorem y_cpout {Q : Int32 → RSt → Prop} (kk : ∀ x, fR [84] u x → (∀ i, i < 64 → x.2.2.1 84 (64 + i) = u.2.2.1 85 (64 + i) ∧ x.2.2.1 84 i = u.2.2.1 84 i) → pp (LP_ticks_146 M M (l1, 0, x)) Q) : pp (LP_ticks_119 M M (l1, 64, u)) Q := by
  have e1 : (1 : Int32).toInt = 1 := by decide
  have e64 : (64 : Int32).toInt = ((64 : Nat) : Int) := by decide
  have e128 : (128 : Int32).toInt = 128 := by decide
  refine pp_lp (Z := fun _ r x => Q r x) (fun (y : Int32 × Int32 × RSt) => y.1 = l1 ∧ fR [84] u y.2.2 ∧ ∃ j : Nat, y.2.1.toInt = (j : Int) ∧ 64 ≤ j ∧ j ≤ 128 ∧ (∀ i, 64 ≤ i → i < j → y.2.2.2.2.1 84 i = u.2.2.1 85 i) ∧ ∀ i, i < 64 → y.2.2.2.2.1 84 i = u.2.2.1 84 i) ?_ M _ ⟨rfl, fR_rf, 64, e64, Nat.le_refl _, by omega, fun i h1 h2 => absurd h2 (by omega), fun _ _ => rfl⟩
  rintro R ⟨y1, y2, y3⟩ ⟨h0, h1, j, h2, h3, h3', h4, h5⟩ ih
  dsimp only at h0 h1 h2 h4 h5
  rw [h0]
  show pp (B_ticks_119 M R l1 y2 y3) _
  unfold B_ticks_119
  refine pp_if (fun c => ?_) (fun c => ?_)
  · have := Int32.le_iff_toInt_le.mp c
    exact kk y3 h1 (fun i hi => ⟨h4 (64 + i) (by omega) (by omega), h5 i hi⟩)
  · have c' : ¬ (128 : Int) ≤ y2.toInt := fun z => c (Int32.le_iff_toInt_le.mpr (by omega))
    refine pp_rd (pp_wr ?_)
    rw [n_of h2]
    refine ih _ ⟨rfl, fR_x h1 (List.mem_singleton.mpr rfl), j + 1, ?_, by omega, by omega, fun i h6 hi => ?_, fun i hi => ?_⟩
    · show (y2 + 1).toInt = _
      rw [tI_add (by omega) (by omega), e1]
      omega
    · show (if i = j then y3.2.2.1 85 j else y3.2.2.1 84 i) = _
      by_cases z : i = j
      · rw [if_pos z, z, h1.2.2.1 85 (by decide)]
      · rw [if_neg z]
        exact h4 i h6 (by omega)
    · show (if i = j then _ else y3.2.2.1 84 i) = _
      rw [if_neg (by omega)]
      exact h5 i hi
/-- positive numbers -/
theorem xor_nn {a b : Int32} (ha : 0 ≤ a.toInt) (hb : 0 ≤ b.toInt) : (0 : Int32) ≤ a ^^^ b := by
  have e0 : (0 : Int32).toInt = 0 := by decide
  rw [Int32.le_iff_toInt_le, e0]
  have m : ∀ c : Int32, (0 ≤ c.toInt ↔ c.toBitVec.msb = false) := fun c => by
    show 0 ≤ c.toBitVec.toInt ↔ _
    rw [BitVec.msb_eq_toInt]
    by_cases h : c.toBitVec.toInt < 0
    · rw [decide_eq_true h]
      constructor
      · intro g; omega
      · intro g; exact absurd g (by decide)
    · rw [decide_eq_false h]
      exact ⟨fun _ => rfl, fun _ => by omega⟩
  rw [m] at ha hb ⊢
  rw [Int32.toBitVec_xor, BitVec.msb_xor, ha, hb]
  rfl
/-- a task is due, in both -/
theorem due_T (ht : 0 ≤ l1.toInt) (h1 : 1 ≤ (tI v k 0).toInt) : pq (F_X7_isDue N k l1 v) (fun r w => w = v ∧ (r = 0 ↔ ¬ l1 - l1 / tI v k 0 * tI v k 0 = tI v k 1)) := by
  have e0 : (0 : Int32).toInt = 0 := by decide
  unfold F_X7_isDue B_X7_isDue_0
  rw [if_neg (fun c => by have := Int32.le_iff_toInt_le.mp c; omega)]
  refine pq_pb (fun r hr => ?_)
  unfold F_J9_floorMod_7cf53 B_J9_floorMod_7cf53_0 at hr
  have hr := (nz_of hr).2
  rw [if_pos (xor_nn ht (by omega))] at hr
  have er := Option.some.inj hr
  rw [← er]
  exact pq_if (fun c => pq_some ⟨rfl, fun g => absurd g (by decide), fun g => absurd c g⟩) (fun c => pq_some ⟨rfl, fun _ => c, fun _ => rfl⟩)
end N23a
/-! A task's run, in both. -/
section N24a
variable {v w w' vF : CSt} {u x x1 uF : RSt} {q s T N n y k g : Nat} {l1 : Int32} {gk : Nat → Int32}
/-- what a run's base has of the state before it -/
def BSq (v : CSt) (u : RSt) (vF : CSt) (uF : RSt) : Prop := (∀ j, j ∈ qeI → cI vF j = cI v j) ∧ cA vF = cA v ∧ cB vF = cB v ∧ vF.2.2.2.2.2.2.2.1 = v.2.2.2.2.2.2.2.1 ∧ mI vF = mI v ∧ (∀ j, j ∈ rfI → uF.1 j = u.1 j) ∧ uF.2.2.1 = u.2.2.1 ∧ uF.2.2.2 = u.2.2.2
theorem run_T (hB : TBN N v u q s T) (hg : GKf v q T gk) (hj : J9s n v u q s T gk) (hs : s < 2) (h55 : (u.1 55).toInt = (s : Int)) (hk : (k : Int) < (u.2.2.1 48 s).toInt) : pq (F_X2_run N q (tI v (8 * q + k) 2) (cI v 2) (cI v 1) v) (fun _ w => pp (F_run N (u.2.2.1 45 (8 * s + k)) u) (fun _ x => ∃ vF uF, RQq vF uF gk w x ∧ BSq v u vF uF)) := by
  obtain ⟨hM, hK, hL, hI, hE, ⟨⟨c1, c2, c3⟩, c4, c5, c6⟩⟩ := hj
  have tb := hB.1
  have e2 : (2 : Int32).toInt = 2 := by decide
  have ct : pA v q 9 2 = u.2.2.1 48 s := tb.2.2.2.2.2.2.1.2.2.1
  obtain ⟨y, y1, y2, y3, y4⟩ := tb.2.2.2.2.2.1.2 2 (by decide) k (by rw [ct]; exact hk)
  have y3' : mI v (169 * q + y) 2 = 2 := tI_eq.mpr (by rw [y3, e2]; rfl)
  obtain ⟨e, e', he, he', hbd⟩ := (hB.2.2.2.1 y y1).2 y3'
  rw [n_of y4] at he he'
  obtain ⟨eb, b1, b2, b3⟩ := BD_sn hbd hs
  unfold F_X2_run B_X2_run_0
  refine pq_pc (pq_pc (pq_pc (pq_pc (pq_pc (pq_pc (pq_pc (pq_pc (pq_pc (pq_pc (pq_pc (pq_pc ?_)))))))))))
  generalize evF : xI (xI (xI (xI (xI (xI (xI (xI (xI (xI (xI (xR v 4 q) 20 (tI v (8 * q + k) 2)) 23 (cI v 2)) 22 (cI v 1)) 18 2000) 19 2000) 21 0) 24 0) 26 0) 27 0) 28 0) 25 1 = vF
  unfold F_run B_run_0
  have key : ∀ r w, LP_X2_run_68 N N (0, vF) = some (r, w) → pp (LP_run_39 N N (1, sI (sI (sI (sI (sI (sI (sI u 113 (u.2.2.1 45 (8 * s + k))) 112 0) 114 0) 115 2100) 116 0) 117 0) 118 0)) (fun _ x => ∃ vF uF, RQq vF uF gk w x ∧ BSq v u vF uF) := by
    generalize euF : sI (sI (sI (sI (sI (sI (sI u 113 (u.2.2.1 45 (8 * s + k))) 112 0) 114 0) 115 2100) 116 0) 117 0) 118 0 = uF
    have hbs : BSq v u vF uF := by
      rw [← evF, ← euF]
      refine ⟨fun j hj => ?_, rfl, rfl, rfl, rfl, fun j hj => ?_, rfl, rfl⟩
      · simp only [qeI, List.mem_cons, List.not_mem_nil, or_false] at hj
        rcases hj with rfl | rfl | rfl | rfl | rfl <;> rfl
      · simp only [rfI, List.mem_cons, List.not_mem_nil, or_false] at hj
        rcases hj with rfl | rfl | rfl | rfl <;> rfl
    have g2 := nat_cl (show 0 ≤ (cI v 2).toInt by omega)
    have hV : VFq v u q s vF uF (cI v 2).toNatClampNeg := by
      rw [← evF, ← euF]
      refine ⟨rfl, rfl, rfl, rfl, rfl, rfl, h55, fun _ _ => rfl, fun _ _ => rfl, g2, ?_, ?_⟩
      · show (u.1 105).toInt = _
        rw [← c4]
        exact g2
      · show cI v 1 = u.1 104
        exact c1
    have hP := PHI_all hB hg hs hV 8
    have hS := b3 vF uF (cI v 2).toNatClampNeg gk 8 hV hP
    have hX : Xc vF vF (2000, 2000, e, 0, 0, cB v 235, cA v 214, cA v 237, cA v 238, cA v 239) := by
      rw [← evF]
      refine ⟨⟨fun _ _ => rfl, rfl, fun _ _ => rfl, fun _ _ => rfl, rfl⟩, rfl, rfl, rfl, ?_, ?_, he, ?_, ?_, rfl, rfl, rfl, rfl, rfl⟩
      · show (2000 : Int32).toInt = ((2000 : Nat) : Int)
        decide
      · show (2000 : Int32).toInt = ((2000 : Nat) : Int)
        decide
      · show (0 : Int32).toInt = ((0 : Nat) : Int)
        decide
      · show (0 : Int32).toInt = ((0 : Nat) : Int)
        decide
    have hY : RX uF uF (0, e', 0, 2100, 0, 0, u.2.2.2 82, u.2.2.1 85, u.2.2.2 107, u.2.2.1 108, u.2.2.1 109, u.2.2.1 110, u.2.2.1 111) := by
      rw [← euF]
      refine ⟨⟨fun _ _ => rfl, fun _ _ => rfl, fun _ _ => rfl, fun _ _ => rfl⟩, rfl, ?_, he', ?_, ?_, ?_, ?_, rfl, rfl, rfl, rfl, rfl, rfl, rfl⟩
      · show (0 : Int32).toInt = ((0 : Nat) : Int)
        decide
      · show (0 : Int32).toInt = ((0 : Nat) : Int)
        decide
      · show (2100 : Int32).toInt = ((2100 : Nat) : Int)
        decide
      · show (0 : Int32).toInt = ((0 : Nat) : Int)
        decide
      · show (0 : Int32).toInt = ((0 : Nat) : Int)
        decide
    have eA : cA vF 213 = cA v 213 := by rw [hbs.2.1]
    have hrun := run_sn (M := cB v 235) (M' := u.2.2.2 82) (S := u.2.2.2 107) (I := cA v 214) (I' := u.2.2.1 85) (b1 := cA v 237) (b2 := cA v 238) (b3 := cA v 239) (c1 := u.2.2.1 108) (c2 := u.2.2.1 109) (c3 := u.2.2.1 110) (c4 := u.2.2.1 111) hS b1 b2 (by omega) hM.1 hM.2 (fun i hi => by rw [eA]; exact ⟨((hI i hi).2.1.1).symm, ((hI i hi).2.1.2).symm⟩)
    intro r w hw r2 x hx
    exact ⟨vF, uF, hrun vF hX N r w hw uF hY N r2 x hx, hbs⟩
  exact fun r w hw => pp_pu (pp_pu (pp_pu (pp_pu (pp_pu (pp_pu (pp_pu (key r w hw)))))))
theorem J9s_run (hj : J9s n v u q s T gk) (tb : TBM v u q s T) (hk : (k : Int) < (u.2.2.1 48 s).toInt) (hR : RQq vF uF gk w x1) (hb : BSq v u vF uF) (hw : w'.1 = w.1 ∧ cA w' = cA w ∧ cB w' = cB w ∧ mI w' = mI w ∧ (∀ m i, ¬ (m = 8 * q + k ∧ 3 ≤ i) → tI w' m i = tI w m i) ∧ tI w' (8 * q + k) 3 = (if cI w 26 = 0 then tI w (8 * q + k) 3 else 1)) (hx : x.1 = x1.1 ∧ x.2.2.2 = x1.2.2.2 ∧ (∀ j, j ∉ [88, 90, 91, 92, 93, 94] → x.2.2.1 j = x1.2.2.1 j) ∧ ∀ j, x.2.2.1 88 j = (if j = k then (if x1.1 118 = 0 then x1.2.2.1 88 j else 1) else x1.2.2.1 88 j)) : J9s n w' x q s T gk := by
  obtain ⟨hM, hK, hL, hI, hE, ⟨⟨c1, c2, c3⟩, c4, c5, c6⟩⟩ := hj
  obtain ⟨e, q0, kz, M, I, M', I', ⟨⟨r1, r2, r3, r4, r5⟩, z25, z26, z28, z24, z235, z214⟩, ⟨⟨s1, s2, s3, s4⟩, t118, t117, t82, t85⟩, m1, m2, m3⟩ := hR
  obtain ⟨v1, v2, v3, v4, v5, u1, u2, u3⟩ := hb
  obtain ⟨w1, w2, w3, w4, w5, w6⟩ := hw
  obtain ⟨x1_, x2_, x3_, x4_⟩ := hx
  have cIe : ∀ j, j ∈ qeI → cI w' j = cI v j := fun j hj => by
    show w'.1 j = v.1 j
    rw [w1]
    refine (r1 j ?_).trans (v1 j hj)
    simp only [qeI, List.mem_cons, List.not_mem_nil, or_false] at hj
    simp only [List.mem_cons, List.not_mem_nil, or_false]
    omega
  have cAe : ∀ j, j ∉ [214, 237, 238, 239] → cA w' j = cA v j := fun j hj => by rw [w2, r3 j hj, v2]
  have cBe : ∀ j, j ≠ 235 → cB w' j = cB v j := fun j hj => by rw [w3, r4 j hj, v3]
  have mIe : mI w' = mI v := by
    rw [w4]
    show w.2.2.2.2.2.2.2.2.1 = _
    rw [r5]
    exact v5
  have tIe : ∀ m i, tI w m i = tI v m i := fun m i => by
    show w.2.2.2.2.2.2.2.1 m i = v.2.2.2.2.2.2.2.1 m i
    rw [r5, v4]
  have xI_ : ∀ j, j ∈ rfI → x.1 j = u.1 j := fun j hj => by
    rw [x1_]
    refine (s1 j ?_).trans (u1 j hj)
    simp only [rfI, List.mem_cons, List.not_mem_nil, or_false] at hj
    simp only [List.mem_cons, List.not_mem_nil, or_false]
    omega
  have xAe : ∀ j, j ∉ [85, 88, 90, 91, 92, 93, 94, 108, 109, 110, 111] → x.2.2.1 j = u.2.2.1 j := fun j hj => by
    simp only [List.mem_cons, List.not_mem_nil, or_false, not_or] at hj
    rw [x3_ j (by simp only [List.mem_cons, List.not_mem_nil, or_false]; omega), s3 j (by simp only [List.mem_cons, List.not_mem_nil, or_false]; omega), u2]
  have xBe : ∀ j, j ∉ [82, 107] → x.2.2.2 j = u.2.2.2 j := fun j hj => by rw [x2_, s4 j hj, u3]
  have eW : cB w' 235 = M := by rw [w3]; exact z235
  have eX : x.2.2.2 82 = M' := by rw [x2_]; exact t82
  have eI : cA w' 214 = I := by rw [w2]; exact z214
  have eJ : x.2.2.1 85 = I' := by rw [x3_ 85 (by decide)]; exact t85
  refine ⟨⟨fun c hc => ?_, fun c hc hk => ?_⟩, fun j hj => ?_, fun i hi => ?_, fun i hi => ?_, ?_, ⟨⟨?_, ?_, ?_⟩, ?_, ?_, ?_⟩⟩
  · rw [eW, eX]
    exact m1 c hc
  · rw [eW]
    exact m2 c hc hk
  · rw [xAe 48 (by decide)] at hj
    obtain ⟨a1, a2, a3, a4, a5⟩ := hK j hj
    rw [w5 _ 0 (fun z => absurd z.2 (by decide)), w5 _ 1 (fun z => absurd z.2 (by decide)), tIe, tIe, xAe 43 (by decide), xAe 44 (by decide)]
    refine ⟨a1, a2, a3, a4, ?_⟩
    have x88 : x1.2.2.1 88 j = u.2.2.1 88 j := by rw [s3 88 (by decide), u2]
    rw [x4_ j, x88]
    by_cases z : j = k
    · rw [if_pos z, z, w6, tIe, z26, t118]
      by_cases ez : e = 0
      · rw [if_pos ez, if_pos ez, ← z]
        exact a5
      · rw [if_neg ez, if_neg ez]
    · rw [if_neg z, w5 _ 3 (fun h => z (by omega)), tIe]
      exact a5
  · rw [cIe 9 (by decide)] at hi
    obtain ⟨a1, y, a2, a3, a4, a5, a6⟩ := hL i hi
    rw [cBe 222 (by decide), xBe 97 (by decide), cAe 220 (by decide), cAe 221 (by decide), mIe]
    exact ⟨a1, y, a2, a3, a4, a5, a6⟩
  · obtain ⟨i1, ⟨i2, i3⟩, i4, i5⟩ := hI i hi
    rw [cAe 211 (by decide), cAe 212 (by decide), cAe 213 (by decide), eI, cAe 215 (by decide), cAe 216 (by decide), cAe 217 (by decide), cAe 218 (by decide), xAe 84 (by decide), eJ, xAe 86 (by decide), xAe 87 (by decide)]
    obtain ⟨n1, n2⟩ := m3 i hi
    exact ⟨i1, ⟨by rw [n1, v2], n2.symm⟩, i4, i5⟩
  · exact EVz_fr hE (cIe 10 (by decide)) (cIe 11 (by decide)) (fun k hk => cAe k (by simp only [List.mem_cons, List.not_mem_nil, or_false] at hk ⊢; omega)) (cBe 226 (by decide)) (xI_ 103 (by decide)) (fun k hk => xAe k (by simp only [List.mem_cons, List.not_mem_nil, or_false] at hk ⊢; omega)) (xBe 102 (by decide))
  · rw [cIe 1 (by decide), xI_ 104 (by decide)]; exact c1
  · rw [cIe 1 (by decide)]; exact c2
  · rw [cIe 1 (by decide)]; exact c3
  · rw [cIe 2 (by decide), xI_ 105 (by decide)]; exact c4
  · rw [cIe 2 (by decide)]; exact c5
  · rw [cIe 2 (by decide)]; exact c6
/-- what noting a run does -/
theorem note_T : pq (F_X7_note N k l1 w) (fun _ w' => w'.1 = w.1 ∧ cA w' = cA w ∧ cB w' = cB w ∧ mI w' = mI w ∧ (∀ m i, ¬ (m = k ∧ 3 ≤ i) → tI w' m i = tI w m i) ∧ tI w' k 3 = (if cI w 26 = 0 then tI w k 3 else 1)) := by
  have tx : ∀ (z : CSt) (j : Nat) (a : Int32) m i, ¬ (m = k ∧ i = j) → tI (xtI z k j a) m i = tI z m i := by
    intro z j a m i h
    show (if m = k then (if i = j then a else tI z m i) else tI z m i) = _
    by_cases c : m = k
    · rw [if_pos c, if_neg (fun d => h ⟨c, d⟩)]
    · rw [if_neg c]
  have tq : ∀ (z : CSt) (j : Nat) (a : Int32), tI (xtI z k j a) k j = a := by
    intro z j a
    show (if k = k then (if j = j then a else tI z k j) else tI z k j) = _
    rw [if_pos rfl, if_pos rfl]
  unfold F_X7_note B_X7_note_0
  refine pq_pc (pq_pc (pq_if (fun c => pq_some ⟨rfl, rfl, rfl, rfl, fun m i h => ?_, ?_⟩) (fun c => pq_pc (pq_pc (pq_pc (pq_pc (pq_pc (pq_some ⟨rfl, rfl, rfl, rfl, fun m i h => ?_, ?_⟩))))))))
  · rw [tx _ _ _ _ _ (fun z => h ⟨z.1, by omega⟩), tx _ _ _ _ _ (fun z => h ⟨z.1, by omega⟩)]
  · have c : cI w 26 = 0 := c
    rw [if_pos c, tx _ _ _ _ _ (fun z => absurd z.2 (by decide)), tx _ _ _ _ _ (fun z => absurd z.2 (by decide))]
  · rw [tx _ _ _ _ _ (fun z => h ⟨z.1, by omega⟩), tx _ _ _ _ _ (fun z => h ⟨z.1, by omega⟩), tx _ _ _ _ _ (fun z => h ⟨z.1, by omega⟩), tx _ _ _ _ _ (fun z => h ⟨z.1, by omega⟩), tx _ _ _ _ _ (fun z => h ⟨z.1, by omega⟩), tx _ _ _ _ _ (fun z => h ⟨z.1, by omega⟩), tx _ _ _ _ _ (fun z => h ⟨z.1, by omega⟩)]
  · have c : ¬ cI w 26 = 0 := c
    rw [if_neg c, tx _ _ _ _ _ (fun z => absurd z.2 (by decide)), tx _ _ _ _ _ (fun z => absurd z.2 (by decide)), tx _ _ _ _ _ (fun z => absurd z.2 (by decide)), tx _ _ _ _ _ (fun z => absurd z.2 (by decide)), tq]
/-- a task's run and what is noted of it, in both -/
theorem task_T (hB : TBN N v u q s T) (hg : GKf v q T gk) (hj : J9s n v u q s T gk) (hs : s < 2) (h55 : (u.1 55).toInt = (s : Int)) (hk : (k : Int) < (u.2.2.1 48 s).toInt) (hl : l1.toInt = (k : Int)) {a : CSt → Int32} : pq (F_X2_run N q (tI v (8 * q + k) 2) (cI v 2) (cI v 1) v) (fun _ w => pq (F_X7_note N (8 * q + k) (a w) w) (fun _ w' => pp (F_runTask N l1 u) (fun _ x => J9s n w' x q s T gk))) := by
  have tb := hB.1
  have nl : l1.toNatClampNeg = k := n_of hl
  have e8 : (8 : Int32).toInt = 8 := by decide
  have t8 := tb.2.2.2.2.2.2.1.2.2.2.2.2.2.2.1
  refine fun r w hw => pq_m note_T (fun r2 w2 h2 => ?_)
  unfold F_runTask B_runTask_0
  refine pp_rd (pp_wr ?_)
  rw [nl]
  generalize eu3 : sA u 89 k (u.2.2.1 89 k + 1) = u3
  have f1 : u3.1 = u.1 := by rw [← eu3]; rfl
  have f2 : ∀ j, j ≠ 89 → u3.2.2.1 j = u.2.2.1 j := fun j hj => by
    rw [← eu3]
    show (if j = 89 then _ else u.2.2.1 j) = _
    rw [if_neg hj]
  have f3 : u3.2.2.2 = u.2.2.2 := by rw [← eu3]; rfl
  have hu : ju u u3 := ⟨by rw [f1], fun j hj => f2 j (fun z => by rw [z] at hj; exact absurd hj (by decide)), fun j _ => by rw [f3]⟩
  have h4 : je4 u u3 := ⟨fun j hj => f2 j (fun z => by rw [z] at hj; exact absurd hj (by decide)), fun j _ => by rw [f3]⟩
  have hB3 : TBN N v u3 q s T := TBN_fr hB ⟨fun _ _ _ => ⟨rfl, rfl⟩, fun _ => rfl, fun _ => rfl, fun _ => rfl, fun _ _ _ _ => rfl⟩ (sr9_all hu h4) hB.2.2.2.2
  have hj3 : J9s n v u3 q s T gk := by
    obtain ⟨a1, a2, a3, a4, a5, a6⟩ := hj
    refine ⟨MEq_fr a1 rfl (by rw [f3]), TKq_fr a2 t8.2 (fun _ _ _ _ => rfl) (sso_all hu) (f2 88 (by decide)), LTq_fr a3 tb.2.1 (fun _ _ _ => rfl) rfl rfl rfl rfl (by rw [f3]), fun i hi => by rw [f2 84 (by decide), f2 85 (by decide), f2 86 (by decide), f2 87 (by decide)]; exact a4 i hi, EVz_fr a5 rfl rfl (fun _ _ => rfl) rfl (by rw [f1]) (fun j hj => f2 j (fun z => by rw [z] at hj; exact absurd hj (by decide))) (by rw [f3]), ?_⟩
    unfold CLq
    rw [f1]
    exact a6
  have h55' : (u3.1 55).toInt = (s : Int) := by rw [f1]; exact h55
  have hk' : (k : Int) < (u3.2.2.1 48 s).toInt := by rw [f2 48 (by decide)]; exact hk
  have x8 : (8 * (u3.1 55) + l1).toNatClampNeg = 8 * s + k := by
    refine n_of ?_
    have m1 : (8 * u3.1 55).toInt = ((8 * s : Nat) : Int) := by rw [tI_mul (by rw [e8, h55']; omega) (by rw [e8, h55']; omega), e8, h55']; omega
    rw [tI_add (by omega) (by omega), m1, hl]
    omega
  refine pp_rd ?_
  rw [x8]
  refine pp_bn (pp_m (run_T hB3 hg hj3 hs h55' hk' r w hw) (fun _ x1 h1 => pp_wr ?_))
  obtain ⟨vF, uF, hR, hb⟩ := h1
  have fin : ∀ x, (x.1 = x1.1 ∧ x.2.2.2 = x1.2.2.2 ∧ (∀ j, j ∉ [88, 90, 91, 92, 93, 94] → x.2.2.1 j = x1.2.2.1 j) ∧ ∀ j, x.2.2.1 88 j = (if j = k then (if x1.1 118 = 0 then x1.2.2.1 88 j else 1) else x1.2.2.1 88 j)) → J9s n w2 x q s T gk := fun x hx => J9s_run hj3 hB3.1 hk' hR hb h2 hx
  have sk_ : ∀ (z : RSt) (j m : Nat) (b : Int32), j ∈ [88, 90, 91, 92, 93, 94] → ∀ i, i ∉ [88, 90, 91, 92, 93, 94] → (sA z j m b).2.2.1 i = z.2.2.1 i := fun z j m b hj i hi => by
    show (if i = j then _ else z.2.2.1 i) = _
    rw [if_neg (fun e : i = j => hi (by rw [e]; exact hj))]
  have s8 : ∀ (z : RSt) (j m : Nat) (b : Int32), j ≠ 88 → (sA z j m b).2.2.1 88 = z.2.2.1 88 := fun z j m b hj => by
    show (if 88 = j then _ else z.2.2.1 88) = _
    rw [if_neg (fun e => hj e.symm)]
  refine pp_if (fun c => pp_some (fin _ ⟨rfl, rfl, fun j hj => sk_ _ 90 _ _ (by decide) j hj, fun j => ?_⟩)) (fun c => pp_wr (pp_wr (pp_wr (pp_wr (pp_if (fun _ => pp_wr (pp_some (fin _ ⟨rfl, rfl, fun j hj => ?_, fun j => ?_⟩))) (fun _ => pp_wr (pp_some (fin _ ⟨rfl, rfl, fun j hj => ?_, fun j => ?_⟩))))))))
  · have c : x1.1 118 = 0 := c
    rw [s8 _ 90 _ _ (by decide), if_pos c, ite_self]
  · rw [sk_ _ 94 _ _ (by decide) j hj, sk_ _ 93 _ _ (by decide) j hj, sk_ _ 92 _ _ (by decide) j hj, sk_ _ 91 _ _ (by decide) j hj, sk_ _ 88 _ _ (by decide) j hj, sk_ _ 90 _ _ (by decide) j hj]
  · have c : ¬ x1.1 118 = 0 := c
    rw [s8 _ 94 _ _ (by decide), s8 _ 93 _ _ (by decide), s8 _ 92 _ _ (by decide), s8 _ 91 _ _ (by decide), if_neg c, vn_1]
    rfl
  · rw [sk_ _ 94 _ _ (by decide) j hj, sk_ _ 93 _ _ (by decide) j hj, sk_ _ 92 _ _ (by decide) j hj, sk_ _ 91 _ _ (by decide) j hj, sk_ _ 88 _ _ (by decide) j hj, sk_ _ 90 _ _ (by decide) j hj]
  · have c : ¬ x1.1 118 = 0 := c
    rw [s8 _ 94 _ _ (by decide), s8 _ 93 _ _ (by decide), s8 _ 92 _ _ (by decide), s8 _ 91 _ _ (by decide), if_neg c, vn_1]
    rfl
end N24a
/-! A tick: what is traced; the whole tick; scan. -/
/-- a change is put before the others, in the reference -/
def SHq (u x : RSt) (i : Nat) (z : Int64) : Prop := (∀ j, j ≠ 103 → x.1 j = u.1 j) ∧ x.1 103 = (if (100 : Int32) ≤ u.1 103 then u.1 103 else u.1 103 + 1) ∧ (∀ j, j ∉ [99, 100, 101] → x.2.2.1 j = u.2.2.1 j) ∧ (∀ j, j ≠ 102 → x.2.2.2 j = u.2.2.2 j) ∧ (x.2.2.1 99 0 = u.1 104 ∧ x.2.2.1 100 0 = u.2.2.1 95 i ∧ x.2.2.1 101 0 = u.2.2.1 96 i ∧ x.2.2.2 102 0 = z) ∧ ∀ k, k < 99 → x.2.2.1 99 (k + 1) = u.2.2.1 99 k ∧ x.2.2.1 100 (k + 1) = u.2.2.1 100 k ∧ x.2.2.1 101 (k + 1) = u.2.2.1 101 k ∧ x.2.2.2 102 (k + 1) = u.2.2.2 102 k
/-- a change is put into the ring, in the class -/
def SEw (v w : CSt) (i : Nat) (t : Int32) (z : Int64) : Prop := (∀ j, j ≠ 10 → j ≠ 11 → cI w j = cI v j) ∧ (∀ j, j ∉ [223, 224, 225] → cA w j = cA v j) ∧ (∀ j, j ≠ 222 → j ≠ 226 → cB w j = cB v j) ∧ w.2.2.2.2 = v.2.2.2.2 ∧ cB w 222 = vp_updL (cB v 222) i z ∧ (cA w 223 = upd (cA v 223) (cI v 11).toNatClampNeg t ∧ cA w 224 = upd (cA v 224) (cI v 11).toNatClampNeg (cA v 220 i) ∧ cA w 225 = upd (cA v 225) (cI v 11).toNatClampNeg (cA v 221 i) ∧ cB w 226 = vp_updL (cB v 226) (cI v 11).toNatClampNeg z) ∧ cI w 11 = (cI v 11 + 1) - (cI v 11 + 1) / 100 * 100 ∧ cI w 10 = (if (100 : Int32) ≤ cI v 10 then 100 else cI v 10 + 1)
section N25a
variable {v w : CSt} {u x : RSt} {q s T N M n y k i : Nat} {a b t : Int32} {z : Int64} {gk : Nat → Int32}
theorem see_T (hb : b.toInt = (i : Int)) : pq (F_X10_see N b t z v) (fun _ w => (cB v 222 i = z ∧ w = v) ∨ (¬ cB v 222 i = z ∧ SEw v w i t z)) := by
  unfold F_X10_see B_X10_see_0
  refine pq_rd ?_
  rw [n_of hb]
  refine pq_if (fun c => pq_some (Or.inl ⟨c, rfl⟩)) (fun c => ?_)
  have fr : ∀ (d : Int32), SEw v (xI (xI (xB (xA (xA (xA (xB v 222 i z) 223 (cI v 11).toNatClampNeg t) 224 (cI v 11).toNatClampNeg (cA v 220 i)) 225 (cI v 11).toNatClampNeg (cA v 221 i)) 226 (cI v 11).toNatClampNeg z) 11 ((cI v 11 + 1) - (cI v 11 + 1) / 100 * 100)) 10 (if (100 : Int32) ≤ cI v 10 then 100 else cI v 10 + 1)) i t z := by
    intro d
    refine ⟨fun j h1 h2 => ?_, fun j hj => ?_, fun j h1 h2 => ?_, rfl, rfl, ⟨rfl, rfl, rfl, rfl⟩, rfl, rfl⟩
    · show (if j = 10 then _ else (if j = 11 then _ else cI v j)) = _
      rw [if_neg h1, if_neg h2]
    · simp only [List.mem_cons, List.not_mem_nil, or_false, not_or] at hj
      show (if j = 225 then _ else (if j = 224 then _ else (if j = 223 then _ else cA v j))) = _
      rw [if_neg hj.2.2, if_neg hj.2.1, if_neg hj.1]
    · show (if j = 226 then _ else (if j = 222 then _ else cB v j)) = _
      rw [if_neg h2, if_neg h1]
  refine pq_wc (pq_wc (pq_rd (pq_wc (pq_rd (pq_wc (pq_wc (pq_pc ?_)))))))
  rw [n_of hb]
  refine pq_if (fun d => pq_pc (pq_some (Or.inr ⟨c, ?_⟩))) (fun d => pq_pc (pq_some (Or.inr ⟨c, ?_⟩)))
  · have d : (100 : Int32) ≤ cI v 10 := d
    have := fr 0
    rw [if_pos d] at this
    exact this
  · have d : ¬ (100 : Int32) ≤ cI v 10 := d
    have := fr 0
    rw [if_neg d] at this
    exact this
theorem y_shift {Q : Int32 → RSt → Prop} {R146 : Int32 × Int32 × RSt → Option (Int32 × RSt)} (hb : b.toInt = (i : Int)) (kk : ∀ x, SHq u x i z → pp (R146 (a, b + 1, x)) Q) : pp (LP_ticks_196 M R146 M (a, b, z, 99, u)) Q := by
  have e1 : (1 : Int32).toInt = 1 := by decide
  have e0 : (0 : Int32).toInt = 0 := by decide
  have em : (-1 : Int32).toInt = -1 := by decide
  have e99 : (99 : Int32).toInt = ((99 : Nat) : Int) := by decide
  refine pp_lp (Z := fun _ r x => Q r x) (fun (y : Int32 × Int32 × Int64 × Int32 × RSt) => y.1 = a ∧ y.2.1 = b ∧ y.2.2.1 = z ∧ (y.2.2.2.2.1 = u.1 ∧ (∀ j, j ∉ [99, 100, 101] → y.2.2.2.2.2.2.1 j = u.2.2.1 j) ∧ (∀ j, j ≠ 102 → y.2.2.2.2.2.2.2 j = u.2.2.2 j)) ∧ ∃ m : Nat, y.2.2.2.1.toInt = (m : Int) ∧ m ≤ 99 ∧ (∀ j, m ≤ j → j < 99 → y.2.2.2.2.2.2.1 99 (j + 1) = u.2.2.1 99 j ∧ y.2.2.2.2.2.2.1 100 (j + 1) = u.2.2.1 100 j ∧ y.2.2.2.2.2.2.1 101 (j + 1) = u.2.2.1 101 j ∧ y.2.2.2.2.2.2.2 102 (j + 1) = u.2.2.2 102 j) ∧ ∀ j, j ≤ m → y.2.2.2.2.2.2.1 99 j = u.2.2.1 99 j ∧ y.2.2.2.2.2.2.1 100 j = u.2.2.1 100 j ∧ y.2.2.2.2.2.2.1 101 j = u.2.2.1 101 j ∧ y.2.2.2.2.2.2.2 102 j = u.2.2.2 102 j) ?_ M _ ⟨rfl, rfl, rfl, ⟨rfl, fun _ _ => rfl, fun _ _ => rfl⟩, 99, e99, Nat.le_refl _, fun j h1 h2 => absurd h2 (by omega), fun _ _ => ⟨rfl, rfl, rfl, rfl⟩⟩
  rintro R ⟨y1, y2, y3, y4, y5⟩ ⟨h1, h2, h3, ⟨f1, f2, f3⟩, m, h4, h5, h6, h7⟩ ih
  dsimp only at h1 h2 h3 f1 f2 f3 h4 h6 h7
  rw [h1, h2, h3]
  show pp (B_ticks_196 M R146 R a b z y4 y5) _
  unfold B_ticks_196 B_ticks_331
  refine pp_if (fun c => ?_) (fun c => ?_)
  · have := Int32.le_iff_toInt_le.mp c
    have m0 : m = 0 := by omega
    subst m0
    have n0 : (0 : Int32).toNatClampNeg = 0 := by decide
    refine pp_wr (pp_rd (pp_wr (pp_rd (pp_wr (pp_wr ?_)))))
    rw [n_of hb, n0]
    have c95 : y5.2.2.1 95 i = u.2.2.1 95 i := by rw [f2 95 (by decide)]
    have c96 : y5.2.2.1 96 i = u.2.2.1 96 i := by rw [f2 96 (by decide)]
    have fr : ∀ d : Int32, d = (if (100 : Int32) ≤ u.1 103 then u.1 103 else u.1 103 + 1) → ∀ x : RSt, (∀ j, j ≠ 103 → x.1 j = y5.1 j) → x.1 103 = d → x.2.2.1 = (sA (sA (sA y5 99 0 (y5.1 104)) 100 0 (y5.2.2.1 95 i)) 101 0 (y5.2.2.1 96 i)).2.2.1 → x.2.2.2 = (sB y5 102 0 z).2.2.2 → SHq u x i z := by
      intro d hd x g1 g2 g3 g4
      refine ⟨fun j hj => by rw [g1 j hj, f1], by rw [g2, hd], fun j hj => ?_, fun j hj => ?_, ⟨?_, ?_, ?_, ?_⟩, fun k hk => ?_⟩
      · rw [g3, ← f2 j hj]
        simp only [List.mem_cons, List.not_mem_nil, or_false, not_or] at hj
        show (if j = 101 then _ else (if j = 100 then _ else (if j = 99 then _ else y5.2.2.1 j))) = _
        rw [if_neg hj.2.2, if_neg hj.2.1, if_neg hj.1]
      · rw [g4, ← f3 j hj]
        show (if j = 102 then _ else y5.2.2.2 j) = _
        rw [if_neg hj]
      · rw [g3]
        show (if 0 = 0 then y5.1 104 else y5.2.2.1 99 0) = _
        rw [if_pos rfl, f1]
      · rw [g3]
        show (if 0 = 0 then y5.2.2.1 95 i else y5.2.2.1 100 0) = _
        rw [if_pos rfl, c95]
      · rw [g3]
        show (if 0 = 0 then y5.2.2.1 96 i else y5.2.2.1 101 0) = _
        rw [if_pos rfl, c96]
      · rw [g4]
        show (if 0 = 0 then z else y5.2.2.2 102 0) = _
        rw [if_pos rfl]
      · obtain ⟨a1, a2, a3, a4⟩ := h6 k (by omega) hk
        rw [g3, g4]
        refine ⟨?_, ?_, ?_, ?_⟩
        · exact a1
        · exact a2
        · exact a3
        · exact a4
    refine pp_if (fun d => kk _ (fr (u.1 103) ?_ _ (fun _ _ => rfl) ?_ rfl rfl)) (fun d => pp_pu (kk _ (fr (u.1 103 + 1) ?_ _ (fun j hj => ?_) ?_ rfl rfl)))
    · have d : (100 : Int32) ≤ y5.1 103 := d
      rw [f1] at d
      rw [if_pos d]
    · show y5.1 103 = u.1 103
      rw [f1]
    · have d : ¬ (100 : Int32) ≤ y5.1 103 := d
      rw [f1] at d
      rw [if_neg d]
    · show (if j = 103 then _ else y5.1 j) = _
      rw [if_neg hj]
    · show y5.1 103 + 1 = u.1 103 + 1
      rw [f1]
  · have c' : ¬ y4.toInt ≤ 0 := fun g => c (Int32.le_iff_toInt_le.mpr (by omega))
    obtain ⟨m', rfl⟩ : ∃ m', m = m' + 1 := ⟨m - 1, by omega⟩
    have s1 : (y4 - 1).toInt = (m' : Int) := by rw [tI_sub (by omega) (by omega), e1]; omega
    have s2 : (y4 + (-1)).toInt = (m' : Int) := by
      generalize hg : (-1 : Int32) = g1 at em ⊢
      rw [tI_add (by omega) (by omega)]
      omega
    refine pp_rd (pp_wr (pp_rd (pp_wr (pp_rd (pp_wr (pp_rd (pp_wr ?_)))))))
    rw [n_of h4, n_of s1]
    refine ih _ ⟨rfl, rfl, rfl, ⟨f1, fun j hj => ?_, fun j hj => ?_⟩, m', s2, by omega, fun j h8 h9 => ?_, fun j h8 => ?_⟩
    · rw [← f2 j hj]
      simp only [List.mem_cons, List.not_mem_nil, or_false, not_or] at hj
      show (if j = 101 then _ else (if j = 100 then _ else (if j = 99 then _ else y5.2.2.1 j))) = _
      rw [if_neg hj.2.2, if_neg hj.2.1, if_neg hj.1]
    · rw [← f3 j hj]
      show (if j = 102 then _ else y5.2.2.2 j) = _
      rw [if_neg hj]
    · by_cases e : j = m'
      · subst e
        obtain ⟨a1, a2, a3, a4⟩ := h7 j (by omega)
        refine ⟨?_, ?_, ?_, ?_⟩
        · show (if j + 1 = j + 1 then y5.2.2.1 99 j else _) = _
          rw [if_pos rfl]; exact a1
        · show (if j + 1 = j + 1 then y5.2.2.1 100 j else _) = _
          rw [if_pos rfl]; exact a2
        · show (if j + 1 = j + 1 then y5.2.2.1 101 j else _) = _
          rw [if_pos rfl]; exact a3
        · show (if j + 1 = j + 1 then y5.2.2.2 102 j else _) = _
          rw [if_pos rfl]; exact a4
      · obtain ⟨a1, a2, a3, a4⟩ := h6 j (by omega) h9
        refine ⟨?_, ?_, ?_, ?_⟩
        · show (if j + 1 = m' + 1 then _ else y5.2.2.1 99 (j + 1)) = _
          rw [if_neg (by omega)]; exact a1
        · show (if j + 1 = m' + 1 then _ else y5.2.2.1 100 (j + 1)) = _
          rw [if_neg (by omega)]; exact a2
        · show (if j + 1 = m' + 1 then _ else y5.2.2.1 101 (j + 1)) = _
          rw [if_neg (by omega)]; exact a3
        · show (if j + 1 = m' + 1 then _ else y5.2.2.2 102 (j + 1)) = _
          rw [if_neg (by omega)]; exact a4
    · obtain ⟨a1, a2, a3, a4⟩ := h7 j (by omega)
      refine ⟨?_, ?_, ?_, ?_⟩
      · show (if j = m' + 1 then _ else y5.2.2.1 99 j) = _
        rw [if_neg (by omega)]; exact a1
      · show (if j = m' + 1 then _ else y5.2.2.1 100 j) = _
        rw [if_neg (by omega)]; exact a2
      · show (if j = m' + 1 then _ else y5.2.2.1 101 j) = _
        rw [if_neg (by omega)]; exact a3
      · show (if j = m' + 1 then _ else y5.2.2.2 102 j) = _
        rw [if_neg (by omega)]; exact a4
theorem nx_100 : ∀ m : Fin 100, ((Int32.ofNat m.val + 1) - (Int32.ofNat m.val + 1) / 100 * 100 : Int32) = Int32.ofNat ((m.val + 1) % 100) := by decide +kernel
/-- the changes stay alike -/
theorem EVz_see (hE : EVz v u) (hw : SEw v w i (cI v 1) z) (hx : SHq u x i z) (h1 : cI v 1 = u.1 104) (h220 : cA v 220 i = u.2.2.1 95 i) (h221 : cA v 221 i = u.2.2.1 96 i) : EVz w x := by
  have e1 : (1 : Int32).toInt = 1 := by decide
  have e100 : (100 : Int32).toInt = 100 := by decide
  obtain ⟨a1, ⟨a2, a3⟩, ⟨a4, a5⟩, a6⟩ := hE
  obtain ⟨w1, w2, w3, w4, w5, ⟨w6, w7, w8, w9⟩, w10, w11⟩ := hw
  obtain ⟨x1, x2, x3, x4, ⟨x5, x6, x7, x8⟩, x9⟩ := hx
  have na := nat_cl a4
  have e11 : cI w 11 = Int32.ofNat (((cI v 11).toNatClampNeg + 1) % 100) := by
    have := nx_100 ⟨(cI v 11).toNatClampNeg, by omega⟩
    have eo : Int32.ofNat (cI v 11).toNatClampNeg = cI v 11 := tI_eq.mpr (by rw [ofN_t (by omega)]; exact na.symm)
    have this : ((Int32.ofNat (cI v 11).toNatClampNeg + 1) - (Int32.ofNat (cI v 11).toNatClampNeg + 1) / 100 * 100 : Int32) = Int32.ofNat (((cI v 11).toNatClampNeg + 1) % 100) := this
    rw [eo] at this
    rw [w10]
    exact this
  have n11 : (cI w 11).toInt = ((((cI v 11).toNatClampNeg + 1) % 100 : Nat) : Int) := by rw [e11]; exact ofN_t (by omega)
  have c11 : (cI w 11).toNatClampNeg = ((cI v 11).toNatClampNeg + 1) % 100 := n_of n11
  have h10 : (cI w 10).toInt = (if (cI v 10).toInt < 100 then (cI v 10).toInt + 1 else 100) ∧ cI w 10 = x.1 103 := by
    rw [w11, x2, ← a1]
    by_cases c : (100 : Int32) ≤ cI v 10
    · have := Int32.le_iff_toInt_le.mp c
      rw [if_pos c, if_pos c, if_neg (by omega)]
      exact ⟨e100, tI_eq.mpr (by omega)⟩
    · have : ¬ (100 : Int) ≤ (cI v 10).toInt := fun g => c (Int32.le_iff_toInt_le.mpr (by omega))
      rw [if_neg c, if_neg c, if_pos (by omega)]
      exact ⟨by rw [tI_add (by omega) (by omega), e1], rfl⟩
  refine ⟨h10.2, ?_, ⟨by omega, by omega⟩, fun k hk => ?_⟩
  · rw [h10.1]
    split <;> omega
  · rw [h10.1] at hk
    rw [c11, w6, w7, w8, w9]
    have hk100 : k < 100 := by
      split at hk <;> omega
    cases k with
    | zero =>
      have er : rg9 (((cI v 11).toNatClampNeg + 1) % 100) 0 = (cI v 11).toNatClampNeg := by
        unfold rg9
        omega
      rw [er, x5, x6, x7, x8]
      refine ⟨?_, ?_, ?_, ?_⟩
      · show (if _ = _ then cI v 1 else _) = _
        rw [if_pos rfl, h1]
      · show (if _ = _ then cA v 220 i else _) = _
        rw [if_pos rfl, h220]
      · show (if _ = _ then cA v 221 i else _) = _
        rw [if_pos rfl, h221]
      · show (if _ = _ then z else _) = _
        rw [if_pos rfl]
    | succ k =>
      have er : rg9 (((cI v 11).toNatClampNeg + 1) % 100) (k + 1) = rg9 (cI v 11).toNatClampNeg k := by
        unfold rg9
        omega
      have ne : ¬ rg9 (cI v 11).toNatClampNeg k = (cI v 11).toNatClampNeg := by
        unfold rg9
        omega
      have hk' : (k : Int) < (cI v 10).toInt := by
        split at hk <;> omega
      obtain ⟨b1, b2, b3, b4⟩ := a6 k hk'
      obtain ⟨d1, d2, d3, d4⟩ := x9 k (by omega)
      rw [er, d1, d2, d3, d4]
      refine ⟨?_, ?_, ?_, ?_⟩
      · show (if rg9 (cI v 11).toNatClampNeg k = (cI v 11).toNatClampNeg then _ else cA v 223 (rg9 (cI v 11).toNatClampNeg k)) = _
        rw [if_neg ne]; exact b1
      · show (if rg9 (cI v 11).toNatClampNeg k = (cI v 11).toNatClampNeg then _ else cA v 224 (rg9 (cI v 11).toNatClampNeg k)) = _
        rw [if_neg ne]; exact b2
      · show (if rg9 (cI v 11).toNatClampNeg k = (cI v 11).toNatClampNeg then _ else cA v 225 (rg9 (cI v 11).toNatClampNeg k)) = _
        rw [if_neg ne]; exact b3
      · show (if rg9 (cI v 11).toNatClampNeg k = (cI v 11).toNatClampNeg then _ else cB v 226 (rg9 (cI v 11).toNatClampNeg k)) = _
        rw [if_neg ne]; exact b4
end N25a
/-! The whole tick; scan. -/
def LPq (N n : Nat) (v : CSt) (u : RSt) (q s T : Nat) (gk : Nat → Int32) : Prop := cR v 0 = q ∧ (s < 2 ∧ (u.1 55).toInt = (s : Int)) ∧ TBN N v u q s T ∧ GKf v q T gk ∧ TL v u ∧ J9s n v u q s T gk
section N26a
variable {v w : CSt} {u x : RSt} {q s T N M n m y k i : Nat} {a b t : Int32} {z : Int64} {gk : Nat → Int32}
theorem LPq_st (h : LPq N n v u q s T gk) (ht : jt v w) (h1 : je1 v w) (hu : ju u x) (h4 : je4 u x) (hL : TL w x) (hj : J9s m w x q s T gk) : LPq N m w x q s T gk := by
  obtain ⟨a1, ⟨a2, a3⟩, tb, hg, -, -⟩ := h
  have hm : sm9 q v w := sm9_all ht h1.1 h1.2
  exact ⟨ht.2.2.1.1.trans a1, ⟨a2, by rw [hu.1]; exact a3⟩, TBN_fr tb hm (sr9_all hu h4) (tb.2.2.2.2.eq ht.2.2.2.1 ht.2.2.2.2), GKf_fr hg tb.1.2.1 tb.2.1 tb.1.2.2.2.2.2.2.2.2.2.1 (fun y k hy => (hm.1 y k hy).1), hL, hj⟩
theorem J9s_mo (h : J9s n v u q s T gk) (hm : n ≤ m) : J9s m v u q s T gk := by
  obtain ⟨a1, a2, a3, a4, a5, ⟨⟨c1, c2, c3⟩, c4⟩⟩ := h
  exact ⟨a1, a2, a3, a4, a5, ⟨⟨c1, c2, by omega⟩, c4⟩⟩
theorem LPq_mo (h : LPq N n v u q s T gk) (hm : n ≤ m) : LPq N m v u q s T gk := ⟨h.1, h.2.1, h.2.2.1, h.2.2.2.1, h.2.2.2.2.1, J9s_mo h.2.2.2.2.2 hm⟩
theorem jt_of5 (h : w.2.2.2.2 = v.2.2.2.2) : jt v w ∧ je1 v w := by
  refine ⟨⟨?_, ?_, ⟨?_, ?_⟩, ?_, ?_⟩, ?_, fun m k _ => ?_⟩
  · show w.2.2.2.2.1 = v.2.2.2.2.1
    rw [h]
  · show w.2.2.2.2.2.1 = v.2.2.2.2.2.1
    rw [h]
  · show w.2.2.2.2.2.2.2.2.2.2 0 = v.2.2.2.2.2.2.2.2.2.2 0
    rw [h]
  · show w.2.2.2.2.2.2.2.2.2.2 1 = v.2.2.2.2.2.2.2.2.2.2 1
    rw [h]
  · show w.2.2.2.2.2.2.2.2.1 = v.2.2.2.2.2.2.2.2.1
    rw [h]
  · show w.2.2.2.2.2.2.2.2.2.1 = v.2.2.2.2.2.2.2.2.2.1
    rw [h]
  · rw [h]
  · show w.2.2.2.2.2.2.2.1 m k = v.2.2.2.2.2.2.2.1 m k
    rw [h]
theorem t5_of {m k : Nat} (h : w.2.2.2.2 = v.2.2.2.2) : tI w m k = tI v m k := by
  show w.2.2.2.2.2.2.2.1 m k = v.2.2.2.2.2.2.2.1 m k
  rw [h]
theorem LPq_see (h : LPq N n v u q s T gk) (hi : (i : Int) < (cI v 9).toInt) (hw : SEw v w i (cI v 1) z) (hx : SHq (sB u 97 i z) x i z) : LPq N n w x q s T gk := by
  obtain ⟨w1, w2, w3, w4, w5, w6, w7, w8⟩ := id hw
  obtain ⟨x1, x2, x3, x4, x5, x6⟩ := id hx
  obtain ⟨a1, a2, tb, hg, hL, hj⟩ := id h
  obtain ⟨b1, b2, b3, b4, b5, ⟨⟨c1, c2, c3⟩, c4, c5⟩⟩ := hj
  obtain ⟨l1, l2, l3, l4⟩ := hL
  obtain ⟨d1, d2⟩ := l4 i hi
  have xA_ : ∀ j, j ∉ [99, 100, 101] → x.2.2.1 j = u.2.2.1 j := fun j hj => (x3 j hj).trans rfl
  have xB_ : ∀ j, j ≠ 97 → j ≠ 102 → x.2.2.2 j = u.2.2.2 j := fun j h1 h2 => (x4 j h2).trans (by
    show (if j = 97 then _ else u.2.2.2 j) = _
    rw [if_neg h1])
  have xI_ : ∀ j, j ≠ 103 → x.1 j = u.1 j := fun j hj => (x1 j hj).trans rfl
  have mIe : mI w = mI v := (jt_of5 w4).1.2.2.2.1
  have hu : ju u x := ⟨xI_ 55 (by decide), fun j hj => xA_ j (by simp only [lA, List.mem_cons, List.not_mem_nil, or_false] at hj ⊢; omega), fun j hj => xB_ j (by simp only [lB, List.mem_cons, List.not_mem_nil, or_false] at hj; omega) (by simp only [lB, List.mem_cons, List.not_mem_nil, or_false] at hj; omega)⟩
  have h4 : je4 u x := ⟨fun j hj => xA_ j (by simp only [reA, List.mem_cons, List.not_mem_nil, or_false] at hj ⊢; omega), fun j hj => xB_ j (by simp only [reB, List.mem_cons, List.not_mem_nil, or_false] at hj; omega) (by simp only [reB, List.mem_cons, List.not_mem_nil, or_false] at hj; omega)⟩
  refine LPq_st h (jt_of5 w4).1 (jt_of5 w4).2 hu h4 ⟨?_, ?_, ?_, fun j hj => ?_⟩ ⟨MEq_fr b1 (w3 235 (by decide) (by decide)) (xB_ 82 (by decide) (by decide)), TKq_fr b2 tb.1.2.2.2.2.2.2.1.2.2.2.2.2.2.2.1.2 (fun _ _ _ _ => t5_of w4) (sso_all hu) (xA_ 88 (by decide)), fun j hj => ?_, fun j hj => ?_, EVz_see (u := sB u 97 i z) b5 hw hx c1 d1 d2, ⟨⟨?_, ?_, ?_⟩, ?_, ?_⟩⟩
  · rw [w1 9 (by decide) (by decide), xI_ 98 (by decide)]; exact l1
  · rw [w1 9 (by decide) (by decide)]; exact l2
  · rw [w1 9 (by decide) (by decide)]; exact l3
  · rw [w1 9 (by decide) (by decide)] at hj
    rw [w2 220 (by decide), w2 221 (by decide), xA_ 95 (by decide), xA_ 96 (by decide)]
    exact l4 j hj
  · rw [w1 9 (by decide) (by decide)] at hj
    obtain ⟨e1, y, e2, e3, e4, e5, e6⟩ := b3 j hj
    rw [w5, x4 97 (by decide), w2 220 (by decide), w2 221 (by decide), mIe]
    refine ⟨?_, y, e2, e3, e4, e5, e6⟩
    show (if j = i then z else cB v 222 j) = (if j = i then z else u.2.2.2 97 j)
    rw [e1]
  · rw [w2 211 (by decide), w2 212 (by decide), w2 213 (by decide), w2 214 (by decide), w2 215 (by decide), w2 216 (by decide), w2 217 (by decide), w2 218 (by decide), xA_ 84 (by decide), xA_ 85 (by decide), xA_ 86 (by decide), xA_ 87 (by decide)]
    exact b4 j hj
  · rw [w1 1 (by decide) (by decide), xI_ 104 (by decide)]; exact c1
  · rw [w1 1 (by decide) (by decide)]; exact c2
  · rw [w1 1 (by decide) (by decide)]; exact c3
  · rw [w1 2 (by decide) (by decide), xI_ 105 (by decide)]; exact c4
  · rw [w1 2 (by decide) (by decide)]; exact c5
/-- what is traced, in both -/
theorem tr_loop (hn : n < 1000000) : ∀ (F F' i : Nat) (a b : Int32) (v : CSt) (u : RSt), b.toInt = (i : Int) → i ≤ 16 → LPq N n v u q s T gk → pq (LP_X11_runTick_104 N F (a, b, v)) (fun y w => pp (LP_ticks_146 N F' (a, b, u)) (fun r x => y = r ∧ LPq N (n + 1) w x q s T gk)) := by
  have e1 : (1 : Int32).toInt = 1 := by decide
  have e0 : (0 : Int32).toInt = 0 := by decide
  have e160 : (160 : Int32).toInt = 160 := by decide
  intro F
  induction F with
  | zero => exact fun _ _ _ _ _ _ _ _ _ _ _ e => nomatch e
  | succ F ih =>
    intro F' i a b v u hb hi16 h
    cases F' with
    | zero => exact fun _ _ _ _ _ e => nomatch e
    | succ F' =>
      show pq (B_X11_runTick_104 N (LP_X11_runTick_104 N F) a b v) (fun y w => pp (B_ticks_146 N (LP_ticks_146 N F') a b u) (fun r x => y = r ∧ LPq N (n + 1) w x q s T gk))
      obtain ⟨hq, ⟨hs, h55⟩, tb, hg, hL, hj⟩ := id h
      obtain ⟨b1, b2, b3, b4, b5, ⟨⟨c1, c2, c3⟩, c4, c5⟩⟩ := id hj
      obtain ⟨l1, l2, l3, l4⟩ := id hL
      unfold B_X11_runTick_104 B_ticks_146
      refine pq_if (fun c => pq_pc (pq_some ?_)) (fun c => ?_)
      · rw [l1] at c
        rw [if_pos c]
        refine pp_pu (pp_some ⟨rfl, LPq_st h ⟨rfl, rfl, ⟨rfl, rfl⟩, rfl, rfl⟩ ⟨rfl, fun _ _ _ => rfl⟩ ⟨rfl, fun _ _ => rfl, fun _ _ => rfl⟩ ⟨fun _ _ => rfl, fun _ _ => rfl⟩ hL ⟨b1, b2, b3, b4, b5, ⟨⟨?_, ?_, ?_⟩, c4, c5⟩⟩⟩)
        · show cI v 1 + 1 = u.1 104 + 1
          rw [c1]
        · show 0 ≤ (cI v 1 + 1).toInt
          rw [tI_add (by omega) (by omega), e1]
          omega
        · show (cI v 1 + 1).toInt ≤ ((n + 1 : Nat) : Int)
          rw [tI_add (by omega) (by omega), e1]
          omega
      · have c' : ¬ (cI v 9).toInt ≤ b.toInt := fun g => c (Int32.le_iff_toInt_le.mpr g)
        have hi : (i : Int) < (cI v 9).toInt := by omega
        obtain ⟨f1, y, f2, f3, f4, f5, f6⟩ := b3 i hi
        obtain ⟨d1, d2⟩ := l4 i hi
        have nb := n_of hb
        have tb1 := tb.1
        have ct : pA v q 9 0 = u.2.2.1 19 s := tb1.2.2.2.2.2.2.1.1
        have yv := tb1.2.2.2.2.1 y f2 f3
        have yq := tb1.2.2.2.2.2.2.2.1 y f2 f3
        obtain ⟨k', k1, k2, -, -, -, -, -, -, -, -, k11⟩ := id yv
        have hv5 : (cA v 220 i).toInt = (k' : Int) := by rw [← f4]; exact k1
        obtain ⟨y', y1', y2', y3', hnth⟩ := k_nthG (N := N) (l1 := cA v 220 i) (so := 0) (o := 0) tb1 (by decide) (by decide) (by rw [ct]; omega)
        have ey : y' = y := by
          have g1 := (tb1.2.2.2.2.2.1.1 y f2 (by unfold gl; rw [f3]; decide)).2
          have g2 := (tb1.2.2.2.2.2.1.1 y' y1' (by unfold gl; rw [y2']; decide)).2
          have g3 : (mI v (169 * q + y') 4) = mI v (169 * q + y) 4 := tI_eq.mpr (by rw [y3', hv5, k1])
          rw [f3] at g1
          rw [y2', g3] at g2
          omega
        subst ey
        have x160 : (160 * (u.1 55) + cA v 220 i).toNatClampNeg = 160 * s + k' := by
          refine n_of ?_
          have m1 : (160 * u.1 55).toInt = ((160 * s : Nat) : Int) := by rw [tI_mul (by rw [e160, h55]; omega) (by rw [e160, h55]; omega), e160, h55]; omega
          rw [tI_add (by omega) (by omega), m1, hv5]
          omega
        have hV : VY v u q s T y' k' (cA v 220 i) (cA v 221 i) := ⟨f2, f3, hv5.symm, k1, k2, x160, f5, f6, yv, yq⟩
        refine pq_ok (fun _ => pq_rd ?_)
        rw [nb, hq]
        refine pq_bc (pq_m hnth (fun r7 w7 h7 => pq_ok (fun _ => pq_rd ?_)))
        rw [h7.1, h7.2, nb]
        refine pq_bc (pq_m (num_T (M := N) hV b1.1 b4.o) (fun z w8 h8 => ?_))
        obtain ⟨h81, h82⟩ := h8
        rw [h81]
        have sb1 : (b + 1).toInt = ((i + 1 : Nat) : Int) := by rw [tI_add (by omega) (by omega), e1]; omega
        have c98 : ¬ u.1 98 ≤ b := by rw [← l1]; exact c
        have ref : ∀ {Q : Int32 → RSt → Prop}, (z = u.2.2.2 97 i → pp (LP_ticks_146 N F' (a, b + 1, u)) Q) → (¬ z = u.2.2.2 97 i → ∀ x, SHq (sB u 97 i z) x i z → pp (LP_ticks_146 N F' (a, b + 1, x)) Q) → pp (if (u.1 98) ≤ b then (pu (sI u 104 ((u.1 104) + 1)) fun u_33 => some (a, u_33)) else (rd (u.2.2.1 95) 16 b fun v_34 => rd (u.2.2.1 96) 16 b fun v_36 => bn (F_numberOf N v_34 v_36 u) fun r_39 u_38 => rd (u_38.2.2.2 97) 16 b fun v_40 => if r_39 = v_40 then (B_ticks_331 N (LP_ticks_146 N F') a b u_38) else (wr 16 b (sB u_38 97 i r_39) fun u_43 => LP_ticks_196 N (LP_ticks_146 N F') N (a, b, r_39, 99, u_43)))) Q := by
          intro Q g1 g2
          rw [if_neg c98]
          refine pp_rd (pp_rd ?_)
          rw [nb, ← d1, ← d2]
          refine pp_bn (pp_m h82 (fun r9 x9 h9 => pp_rd ?_))
          rw [h9.1, h9.2, nb]
          refine pp_if (fun e => ?_) (fun e => pp_wr ?_)
          · exact g1 e
          · exact y_shift hb (g2 e)
        refine pq_bc (pq_m (see_T hb) (fun _ w9 h9 => ?_))
        rcases h9 with ⟨g1, g2⟩ | ⟨g1, g2⟩
        · rw [g2]
          by_cases c17 : i + 1 ≤ 16
          · exact pq_m (ih F' (i + 1) a (b + 1) v u sb1 c17 h) (fun y w hy => ref (fun _ => hy) (fun e => absurd (g1.symm.trans f1) e))
          · omega
        · have hne : ¬ z = u.2.2.2 97 i := fun e => g1 (f1.trans e.symm)
          refine fun y w hw => ref (fun e => absurd e hne) (fun _ x hx => ?_)
          exact ih F' (i + 1) a (b + 1) w9 x sb1 (by omega) (LPq_see h hi g2 hx) y w hw
theorem pp_nz {α : Type} {c : Int32} {X : Option (α × RSt)} {Q : α → RSt → Prop} (h : pp X Q) : pp (nz c X) Q := fun r w e => h r w (nz_of e).2
/-- outputs given, in both -/
theorem give_J (h : LPq N n v u q s T gk) {x1 x2 : RSt} (hw : fA [212, 214] v w ∧ ∀ i, i < 64 → cA w 214 i = fcq (cA v 214 i) (cA v 216 i) (cA v 218 i) ∧ cA w 212 i = fcq (cA v 214 i) (cA v 216 i) (cA v 218 i)) (hx1 : fR [85] u x1 ∧ (∀ i, 64 ≤ i → i < 64 + 64 → x1.2.2.1 85 i = fcq (u.2.2.1 85 i) (u.2.2.1 86 i) (u.2.2.1 87 i)) ∧ ∀ i, ¬ (64 ≤ i ∧ i < 64 + 64) → x1.2.2.1 85 i = u.2.2.1 85 i) (hx2 : fR [84] x1 x2 ∧ ∀ i, i < 64 → x2.2.2.1 84 (64 + i) = x1.2.2.1 85 (64 + i) ∧ x2.2.2.1 84 i = x1.2.2.1 84 i) : LPq N n w x2 q s T gk := by
  obtain ⟨⟨w1, w2, w3, w4⟩, w5⟩ := hw
  obtain ⟨⟨p1, p2, p3, p4⟩, p5, p6⟩ := hx1
  obtain ⟨⟨r1, r2, r3, r4⟩, r5⟩ := hx2
  obtain ⟨a1, a2, tb, hg, hL, hj⟩ := id h
  obtain ⟨b1, b2, b3, b4, b5, ⟨⟨c1, c2, c3⟩, c4, c5⟩⟩ := hj
  have xI_ : x2.1 = u.1 := r1.trans p1
  have xA_ : ∀ j, j ≠ 84 → j ≠ 85 → x2.2.2.1 j = u.2.2.1 j := fun j h1 h2 => (r3 j (by rw [List.mem_singleton]; exact h1)).trans (p3 j (by rw [List.mem_singleton]; exact h2))
  have xB_ : x2.2.2.2 = u.2.2.2 := r4.trans p4
  have w45 : w.2.2.2.2 = v.2.2.2.2 := by rw [w4]
  have hB : ∀ j, cB w j = cB v j := fun j => by
    show w.2.2.2.1 j = v.2.2.2.1 j
    rw [w4]
  have hI : ∀ j, cI w j = cI v j := fun j => by
    show w.1 j = v.1 j
    rw [w1]
  have hu : ju u x2 := ⟨by rw [xI_], fun j hj => xA_ j (by simp only [lA, List.mem_cons, List.not_mem_nil, or_false] at hj; omega) (by simp only [lA, List.mem_cons, List.not_mem_nil, or_false] at hj; omega), fun j _ => by rw [xB_]⟩
  have h4 : je4 u x2 := ⟨fun j hj => xA_ j (by simp only [reA, List.mem_cons, List.not_mem_nil, or_false] at hj; omega) (by simp only [reA, List.mem_cons, List.not_mem_nil, or_false] at hj; omega), fun j _ => by rw [xB_]⟩
  have mIe : mI w = mI v := (jt_of5 w45).1.2.2.2.1
  obtain ⟨l1, l2, l3, l4⟩ := hL
  refine LPq_st h (jt_of5 w45).1 (jt_of5 w45).2 hu h4 ⟨by rw [hI, xI_]; exact l1, by rw [hI]; exact l2, by rw [hI]; exact l3, fun j hj => ?_⟩ ⟨MEq_fr b1 (hB 235) (by rw [xB_]), TKq_fr b2 tb.1.2.2.2.2.2.2.1.2.2.2.2.2.2.2.1.2 (fun _ _ _ _ => t5_of w45) (sso_all hu) (xA_ 88 (by decide) (by decide)), LTq_fr b3 tb.1.2.1 (fun y k _ => by rw [mIe]) (hI 9) (hB 222) (w3 220 (by decide)) (w3 221 (by decide)) (by rw [xB_]), fun i hi => ?_, EVz_fr b5 (hI 10) (hI 11) (fun k hk => w3 k (by simp only [List.mem_cons, List.not_mem_nil, or_false] at hk ⊢; omega)) (hB 226) (by rw [xI_]) (fun k hk => xA_ k (by simp only [List.mem_cons, List.not_mem_nil, or_false] at hk; omega) (by simp only [List.mem_cons, List.not_mem_nil, or_false] at hk; omega)) (by rw [xB_]), ⟨⟨by rw [hI, xI_]; exact c1, by rw [hI]; exact c2, by rw [hI]; exact c3⟩, by rw [hI, xI_]; exact c4, by rw [hI]; exact c5⟩⟩
  · rw [hI] at hj
    rw [w3 220 (by decide), w3 221 (by decide), xA_ 95 (by decide) (by decide), xA_ 96 (by decide) (by decide)]
    exact l4 j hj
  · obtain ⟨⟨i1, i2⟩, ⟨i3, i4⟩, ⟨i5, i6⟩, i7, i8⟩ := b4 i hi
    obtain ⟨g1, g2⟩ := w5 i hi
    obtain ⟨k1, k2⟩ := r5 i hi
    have e85 : x2.2.2.1 85 = x1.2.2.1 85 := r3 85 (by decide)
    have f85' : x1.2.2.1 85 (64 + i) = fcq (cA v 214 i) (cA v 216 i) (cA v 218 i) := by rw [p5 (64 + i) (by omega) (by omega), i4, i6, i8]
    rw [w3 211 (by decide), g2, w3 213 (by decide), g1, w3 215 (by decide), w3 216 (by decide), w3 217 (by decide), w3 218 (by decide), k1, k2, e85, f85', p6 i (by omega), xA_ 86 (by decide) (by decide), xA_ 87 (by decide) (by decide), p3 84 (by decide)]
    exact ⟨⟨i1, rfl⟩, ⟨i3, rfl⟩, ⟨i5, i6⟩, i7, i8⟩
/-- inputs taken, in both -/
theorem take_J (h : LPq N n v u q s T gk) {x1 x2 : RSt} (hw : fA [213] v w ∧ ∀ i, i < 64 → cA w 213 i = fcq (cA v 211 i) (cA v 215 i) (cA v 217 i)) (hx1 : fR [85] u x1 ∧ (∀ i, i < 64 → x1.2.2.1 85 i = u.2.2.1 84 i) ∧ ∀ i, 64 ≤ i → x1.2.2.1 85 i = u.2.2.1 85 i) (hx2 : fR [85] x1 x2 ∧ (∀ i, 0 ≤ i → i < 0 + 64 → x2.2.2.1 85 i = fcq (x1.2.2.1 85 i) (x1.2.2.1 86 i) (x1.2.2.1 87 i)) ∧ ∀ i, ¬ (0 ≤ i ∧ i < 0 + 64) → x2.2.2.1 85 i = x1.2.2.1 85 i) : LPq N n w x2 q s T gk := by
  obtain ⟨⟨w1, w2, w3, w4⟩, w5⟩ := hw
  obtain ⟨⟨p1, p2, p3, p4⟩, p5, p6⟩ := hx1
  obtain ⟨⟨r1, r2, r3, r4⟩, r5, r6⟩ := hx2
  obtain ⟨a1, a2, tb, hg, hL, hj⟩ := id h
  obtain ⟨b1, b2, b3, b4, b5, ⟨⟨c1, c2, c3⟩, c4, c5⟩⟩ := hj
  have xI_ : x2.1 = u.1 := r1.trans p1
  have xA_ : ∀ j, j ≠ 85 → x2.2.2.1 j = u.2.2.1 j := fun j h2 => (r3 j (by rw [List.mem_singleton]; exact h2)).trans (p3 j (by rw [List.mem_singleton]; exact h2))
  have xB_ : x2.2.2.2 = u.2.2.2 := r4.trans p4
  have w45 : w.2.2.2.2 = v.2.2.2.2 := by rw [w4]
  have hB : ∀ j, cB w j = cB v j := fun j => by
    show w.2.2.2.1 j = v.2.2.2.1 j
    rw [w4]
  have hI : ∀ j, cI w j = cI v j := fun j => by
    show w.1 j = v.1 j
    rw [w1]
  have hu : ju u x2 := ⟨by rw [xI_], fun j hj => xA_ j (by simp only [lA, List.mem_cons, List.not_mem_nil, or_false] at hj; omega), fun j _ => by rw [xB_]⟩
  have h4 : je4 u x2 := ⟨fun j hj => xA_ j (by simp only [reA, List.mem_cons, List.not_mem_nil, or_false] at hj; omega), fun j _ => by rw [xB_]⟩
  have mIe : mI w = mI v := (jt_of5 w45).1.2.2.2.1
  obtain ⟨l1, l2, l3, l4⟩ := hL
  refine LPq_st h (jt_of5 w45).1 (jt_of5 w45).2 hu h4 ⟨by rw [hI, xI_]; exact l1, by rw [hI]; exact l2, by rw [hI]; exact l3, fun j hj => ?_⟩ ⟨MEq_fr b1 (hB 235) (by rw [xB_]), TKq_fr b2 tb.1.2.2.2.2.2.2.1.2.2.2.2.2.2.2.1.2 (fun _ _ _ _ => t5_of w45) (sso_all hu) (xA_ 88 (by decide)), LTq_fr b3 tb.1.2.1 (fun y k _ => by rw [mIe]) (hI 9) (hB 222) (w3 220 (by decide)) (w3 221 (by decide)) (by rw [xB_]), fun i hi => ?_, EVz_fr b5 (hI 10) (hI 11) (fun k hk => w3 k (by simp only [List.mem_cons, List.not_mem_nil, or_false] at hk ⊢; omega)) (hB 226) (by rw [xI_]) (fun k hk => xA_ k (by simp only [List.mem_cons, List.not_mem_nil, or_false] at hk; omega)) (by rw [xB_]), ⟨⟨by rw [hI, xI_]; exact c1, by rw [hI]; exact c2, by rw [hI]; exact c3⟩, by rw [hI, xI_]; exact c4, by rw [hI]; exact c5⟩⟩
  · rw [hI] at hj
    rw [w3 220 (by decide), w3 221 (by decide), xA_ 95 (by decide), xA_ 96 (by decide)]
    exact l4 j hj
  · obtain ⟨⟨i1, i2⟩, ⟨i3, i4⟩, ⟨i5, i6⟩, i7, i8⟩ := b4 i hi
    have e1 : x2.2.2.1 85 i = fcq (cA v 211 i) (cA v 215 i) (cA v 217 i) := by rw [r5 i (by omega) (by omega), p5 i hi, p3 86 (by decide), p3 87 (by decide), i1, i5, i7]
    have e2 : x2.2.2.1 85 (64 + i) = u.2.2.1 85 (64 + i) := by rw [r6 (64 + i) (by omega), p6 (64 + i) (by omega)]
    rw [w3 211 (by decide), w3 212 (by decide), w5 i hi, w3 214 (by decide), w3 215 (by decide), w3 216 (by decide), w3 217 (by decide), w3 218 (by decide), e1, e2, xA_ 84 (by decide), xA_ 86 (by decide), xA_ 87 (by decide)]
    exact ⟨⟨i1, i2⟩, ⟨rfl, i4⟩, ⟨i5, i6⟩, i7, i8⟩
/-- tasks, in both -/
theorem tk_loop (hn : n < 1000000) : ∀ (F F' k : Nat) (a b : Int32) (v : CSt) (u : RSt), b.toInt = (k : Int) → k ≤ 8 → LPq N n v u q s T gk → pq (LP_X11_runTick_11 N F (a, b, v)) (fun y w => pp (LP_ticks_35 N F' (a, b, u)) (fun r x => y = r ∧ LPq N (n + 1) w x q s T gk)) := by
  have e1 : (1 : Int32).toInt = 1 := by decide
  have e0 : (0 : Int32).toInt = ((0 : Nat) : Int) := by decide
  have e8 : (8 : Int32).toInt = 8 := by decide
  have e64 : (64 : Int32).toInt = ((64 : Nat) : Int) := by decide
  intro F
  induction F with
  | zero => exact fun _ _ _ _ _ _ _ _ _ _ _ e => nomatch e
  | succ F ih =>
    intro F' k a b v u hb hk8 h
    cases F' with
    | zero => exact fun _ _ _ _ _ e => nomatch e
    | succ F' =>
      show pq (B_X11_runTick_11 N (LP_X11_runTick_11 N F) a b v) (fun y w => pp (B_ticks_35 N (LP_ticks_35 N F') a b u) (fun r x => y = r ∧ LPq N (n + 1) w x q s T gk))
      obtain ⟨hq, ⟨hs, h55⟩, tb, hg, hL, hj⟩ := id h
      obtain ⟨b1, b2, b3, b4, b5, ⟨⟨c1, c2, c3⟩, c4, c5⟩⟩ := id hj
      have n55 : (u.1 55).toNatClampNeg = s := n_of h55
      have nb := n_of hb
      have ct : pA v q 9 2 = u.2.2.1 48 s := tb.1.2.2.2.2.2.2.1.2.2.1
      have t8 := tb.1.2.2.2.2.2.2.1.2.2.2.2.2.2.2.1
      unfold B_X11_runTick_11 B_ticks_35 B_X11_runTick_89 B_ticks_104
      refine pq_ok (fun _ => pq_bc ?_)
      unfold F_X6_ofSort B_X6_ofSort_0
      refine pq_rd (pq_some ?_)
      rw [hq, show pA v q 9 (2 : Int32).toNatClampNeg = u.2.2.1 48 s from ct]
      refine pq_if (fun c => ?_) (fun c => ?_)
      · refine pq_bc (pq_m give_T (fun _ w hw => ?_))
        refine fun y w9 hw9 => ?_
        refine pp_rd ?_
        rw [n55, if_pos c]
        refine pp_bn (pp_m (y_forces e64 (by decide)) (fun _ x1 hx1 => y_cpout (fun x2 hx2 hx3 => ?_)))
        exact tr_loop hn N N 0 a 0 w x2 e0 (by decide) (give_J h hw hx1 ⟨hx2, hx3⟩) y w9 hw9
      · have c' : ¬ (u.2.2.1 48 s).toInt ≤ b.toInt := fun g => c (Int32.le_iff_toInt_le.mpr g)
        have hk : (k : Int) < (u.2.2.1 48 s).toInt := by omega
        obtain ⟨k0, k1, k2, k3, k4⟩ := b2 k hk
        have sb1 : (b + 1).toInt = ((k + 1 : Nat) : Int) := by rw [tI_add (by omega) (by omega), e1]; omega
        have x8 : (8 * (u.1 55) + b).toNatClampNeg = 8 * s + k := by
          refine n_of ?_
          have m1 : (8 * u.1 55).toInt = ((8 * s : Nat) : Int) := by rw [tI_mul (by rw [e8, h55]; omega) (by rw [e8, h55]; omega), e8, h55]; omega
          rw [tI_add (by omega) (by omega), m1, hb]
          omega
        refine pq_ok (fun _ => pq_ix (fun _ => ?_))
        rw [nb]
        refine pq_if (fun d => ?_) (fun d => ?_)
        · have d88 : u.2.2.1 88 k = 0 := k4.symm.trans d
          refine pq_bc (pq_m (due_T c2 k2.1) (fun r w hw => ?_))
          rw [hw.1]
          refine pq_if (fun e => ?_) (fun e => ?_)
          · have nd := hw.2.mp e
            refine pq_m (ih F' (k + 1) a (b + 1) v u sb1 (by omega) h) (fun y w9 hy => pp_rd ?_)
            rw [n55, if_neg c]
            refine pp_rd ?_
            rw [nb, if_pos d88]
            refine pp_rd (pp_nz (pp_rd ?_))
            rw [x8, ← k0, ← k1, ← c1, if_neg nd]
            exact hy
          · have yd : cI v 1 - cI v 1 / tI v (8 * q + k) 0 * tI v (8 * q + k) 0 = tI v (8 * q + k) 1 := Classical.byContradiction (fun g => e (hw.2.mpr g))
            refine pq_ok (fun _ => pq_bc ?_)
            rw [hq]
            refine fun r5 w5 h5 => pq_bc (fun r6 w6 h6 => ?_)
            refine fun y w9 hw9 => pp_rd ?_
            rw [n55, if_neg c]
            refine pp_rd ?_
            rw [nb, if_pos d88]
            refine pp_rd (pp_nz (pp_rd ?_))
            rw [x8, ← k0, ← k1, ← c1, if_pos yd]
            refine pp_bn (fun r7 x7 h7 => ?_)
            have hj' := task_T tb hg hj hs h55 hk hb (a := fun w => cI w 1) r5 w5 h5 r6 w6 h6 r7 x7 h7
            have ht : jt v w6 := jt_tr (kt_F_X2_run _ _ h5) (kt_F_X7_note _ _ h6)
            have h1 : je1 v w6 := je1_tr (e1_F_X2_run _ _ h5) (e1_F_X7_note _ _ h6)
            have hLL : TL w6 x7 := TL_fr hL (jv_tr (kv_F_X2_run _ _ h5) (kv_F_X7_note _ _ h6)) (kx_F_runTask _ _ h7)
            exact ih F' (k + 1) (a + 1) (b + 1) w6 x7 sb1 (by omega) (LPq_st h ht h1 (ku_F_runTask _ _ h7) (e4_F_runTask _ _ h7) hLL hj') y w9 hw9
        · have d88 : ¬ u.2.2.1 88 k = 0 := fun g => d (k4.trans g)
          refine pq_m (ih F' (k + 1) a (b + 1) v u sb1 (by omega) h) (fun y w9 hy => pp_rd ?_)
          rw [n55, if_neg c]
          refine pp_rd ?_
          rw [nb, if_neg d88]
          exact hy
/-- a tick -/
theorem tick_T (hn : n < 1000000) (h : LPq N n v u q s T gk) : pq (F_X11_runTick N v) (fun y w => pp (F_ticks N u) (fun r x => y = r ∧ LPq N (n + 1) w x q s T gk)) := by
  have e0 : (0 : Int32).toInt = ((0 : Nat) : Int) := by decide
  unfold F_X11_runTick B_X11_runTick_0 F_ticks B_ticks_0
  refine pq_bc (pq_m take_T (fun _ w hw => ?_))
  refine fun y w9 hw9 => y_cpin (fun x1 p1 p2 p3 => pp_bn (pp_m (y_forces e0 (by decide)) (fun _ x2 hx2 => ?_)))
  exact tk_loop hn N N 0 0 0 w x2 e0 (by decide) (take_J h hw ⟨p1, p2, p3⟩ hx2) y w9 hw9
theorem scan_l : ∀ (F F' m n : Nat) (l a b : Int32) (v : CSt) (u : RSt), l.toInt = b.toInt + (m : Int) → (0 ≤ b.toInt ∧ l.toInt ≤ 50) → n + m < 1000000 → u.1 9 = 0 → LPq N n v u q s T gk → pq (LP_X11_scan_25 N F (l, a, b, v)) (fun y w => pp (LP_scan_23 N F' (l, a, b, u)) (fun r x => y = .inr r ∧ x.1 9 = 0 ∧ LPq N (n + m) w x q s T gk)) := by
  have e1 : (1 : Int32).toInt = 1 := by decide
  intro F
  induction F with
  | zero => exact fun _ _ _ _ _ _ _ _ _ _ _ _ _ _ _ e => nomatch e
  | succ F ih =>
    intro F' m n l a b v u hl hb hn h9 h
    cases F' with
    | zero => exact fun _ _ _ _ _ e => nomatch e
    | succ F' =>
      show pq (B_X11_scan_25 N (LP_X11_scan_25 N F) l a b v) (fun y w => pp (B_scan_23 N (LP_scan_23 N F') l a b u) (fun r x => y = .inr r ∧ x.1 9 = 0 ∧ LPq N (n + m) w x q s T gk))
      unfold B_X11_scan_25 B_scan_23
      refine pq_if (fun c => pq_some ?_) (fun c => ?_)
      · rw [if_pos c]
        have := Int32.le_iff_toInt_le.mp c
        exact pp_some ⟨rfl, h9, LPq_mo h (by omega)⟩
      · have c' : ¬ l.toInt ≤ b.toInt := fun g => c (Int32.le_iff_toInt_le.mpr g)
        obtain ⟨m', rfl⟩ : ∃ m', m = m' + 1 := ⟨m - 1, by omega⟩
        rw [if_neg c, if_pos h9]
        have sb1 : (b + 1).toInt = b.toInt + 1 := by rw [tI_add (by omega) (by omega), e1]
        refine pq_bc (fun r1 w1 h1 => fun y w9 hw9 => pp_bn (fun r2 x2 h2 => ?_))
        obtain ⟨er, hL⟩ := tick_T (by omega) h r1 w1 h1 r2 x2 h2
        have x9 : x2.1 9 = 0 := ((e8_F_ticks _ _ h2).1 9 (by decide)).trans h9
        have := ih F' m' (n + 1) l (a + r1) (b + 1) w1 x2 (by omega) ⟨by omega, hb.2⟩ (by omega) x9 hL y w9 hw9
        rw [← er]
        rw [show n + 1 + m' = n + (m' + 1) by omega] at this
        exact this
/-- scan -/
theorem scan_T {l1 : Int32} (hn : n + 50 < 1000000) (h : LPq N n v u q s T gk) : pq (F_X11_scan N l1 v) (fun y w => pp (F_scan N l1 u) (fun r x => ((y = .inl 1 ∧ x.1 9 = 1) ∨ (y = .inr r ∧ x.1 9 = 0)) ∧ LPq N (n + 50) w x q s T gk)) := by
  have e1 : (1 : Int32).toInt = 1 := by decide
  have e0 : (0 : Int32).toInt = 0 := by decide
  have e50 : (50 : Int32).toInt = 50 := by decide
  have st : ∀ d : Int32, LPq N n v (sI u 9 d) q s T gk := fun d => LPq_st h ⟨rfl, rfl, ⟨rfl, rfl⟩, rfl, rfl⟩ ⟨rfl, fun _ _ _ => rfl⟩ ⟨rfl, fun _ _ => rfl, fun _ _ => rfl⟩ ⟨fun _ _ => rfl, fun _ _ => rfl⟩ h.2.2.2.2.1 h.2.2.2.2.2
  unfold F_X11_scan B_X11_scan_0 F_scan B_scan_0 B_scan_16
  rcases rin_c (l := l1) (a := 1) (b := 50) with ⟨h1, h2⟩ | ⟨h1, h2⟩
  · rw [if_pos h1]
    have fin : pp (pu (sI u 9 1) fun u_5 => LP_scan_23 N N (l1, 0, 0, u_5)) (fun r x => ((Sum.inl (β := Int32) 1 = .inl 1 ∧ x.1 9 = 1) ∨ (Sum.inl (β := Int32) 1 = .inr r ∧ x.1 9 = 0)) ∧ LPq N (n + 50) v x q s T gk) := by
      refine pp_pu ?_
      refine pp_lp (Z := fun _ r x => ((Sum.inl (β := Int32) 1 = .inl 1 ∧ x.1 9 = 1) ∨ (Sum.inl (β := Int32) 1 = .inr r ∧ x.1 9 = 0)) ∧ LPq N (n + 50) v x q s T gk) (fun (y : Int32 × Int32 × Int32 × RSt) => y.2.2.2 = sI u 9 1) ?_ N _ rfl
      rintro R ⟨y1, y2, y3, y4⟩ hy ih
      dsimp only at hy
      rw [hy]
      show pp (B_scan_23 N R y1 y2 y3 (sI u 9 1)) _
      unfold B_scan_23
      have ff : ((Sum.inl (β := Int32) 1 = .inl 1 ∧ (sI u 9 1).1 9 = 1) ∨ (Sum.inl (β := Int32) 1 = .inr y2 ∧ (sI u 9 1).1 9 = 0)) ∧ LPq N (n + 50) v (sI u 9 1) q s T gk := ⟨Or.inl ⟨rfl, rfl⟩, LPq_mo (st 1) (by omega)⟩
      refine pp_if (fun _ => pp_some ff) (fun _ => ?_)
      rw [if_neg (show ¬ (sI u 9 1).1 9 = 0 by show ¬ (1 : Int32) = 0; decide)]
      exact pp_some ff
    refine pq_if (fun _ => pq_some fin) (fun c => ?_)
    rw [if_neg (fun c2 => h2 ⟨by rw [Int32.lt_iff_toInt_lt] at c; omega, by have := Int32.le_iff_toInt_le.mp c2; omega⟩)]
    exact pq_some fin
  · rw [if_neg h1, if_neg (fun c => by have := Int32.lt_iff_toInt_lt.mp c; omega), if_pos (Int32.le_iff_toInt_le.mpr (by omega))]
    refine fun y w hw => pp_pu ?_
    have := scan_l N N l1.toInt.toNat n l1 0 0 v (sI u 9 0) (by omega) ⟨by omega, by omega⟩ (by omega) rfl (st 0) y w hw
    refine pp_m this (fun r x hx => ⟨Or.inr ⟨hx.1, hx.2.1⟩, LPq_mo hx.2.2 (by omega)⟩)
end N26a
