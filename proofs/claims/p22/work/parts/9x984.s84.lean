/-! The tables of what is installed: class program q, reference side s. -/
def TRq1 (v : CSt) (u : RSt) (q s y : Nat) : Prop := 1 ≤ (mI v (169 * q + y) 7).toInt ∧ (mI v (169 * q + y) 7).toInt ≤ 200 ∧ (((mI v (169 * q + y) 6 = 0 ∨ mI v (169 * q + y) 6 = 1) ∧ u.2.2.1 14 (160 * s + (mI v (169 * q + y) 4).toNatClampNeg) = -1 ∧ u.2.2.1 15 (160 * s + (mI v (169 * q + y) 4).toNatClampNeg) = mI v (169 * q + y) 9 ∧ 0 ≤ (mI v (169 * q + y) 9).toInt ∧ (mI v (169 * q + y) 9).toInt + (mI v (169 * q + y) 7).toInt ≤ 2000) ∨ ((mI v (169 * q + y) 6 = 2 ∨ mI v (169 * q + y) 6 = 3) ∧ mI v (169 * q + y) 7 = 1 ∧ mI v (169 * q + y) 8 = 0 ∧ u.2.2.1 14 (160 * s + (mI v (169 * q + y) 4).toNatClampNeg) = mI v (169 * q + y) 9 ∧ u.2.2.1 15 (160 * s + (mI v (169 * q + y) 4).toNatClampNeg) = (if mI v (169 * q + y) 6 = 2 then 6000 else 5000) + mI v (169 * q + y) 9 ∧ 0 ≤ (mI v (169 * q + y) 9).toInt ∧ (mI v (169 * q + y) 9).toInt ≤ (64 - r_bits (mI v (169 * q + y) 5) / 8).toInt))
/-- names of the program are all different, and none of the eight -/
def TRu (v : CSt) (q T : Nat) : Prop := (∀ x x', x < T → x' < T → gl v (169 * q + x) → gl v (169 * q + x') → mL v (169 * q + x) 0 = mL v (169 * q + x') 0 → mI v (169 * q + x) 1 = mI v (169 * q + x') 1 → x = x') ∧ (∀ x, x < T → gl v (169 * q + x) → ∀ k, k < 8 → ¬ (mI v (169 * q + x) 1 = 0 ∧ mL v (169 * q + x) 0 = mL v (169 * q + (160 + k)) 0))
def TBM (v : CSt) (u : RSt) (q s T : Nat) : Prop := (pI v q 12).toInt = (T : Int) ∧ T ≤ 160 ∧ TRx v q T ∧ TRn v q T ∧ TRv v u q s T ∧ TRs v q T ∧ CTN v u q s T ∧ (∀ y, y < T → mI v (169 * q + y) 2 = 0 → TRq1 v u q s y) ∧ TRf v u q s T ∧ TRi v u q s T ∧ TRu v q T
/-- the side s of the reference's tables is the same -/
def sso (s : Nat) (u x : RSt) : Prop := (∀ k, k ∈ [10, 11, 12, 13, 14, 15, 20, 21, 22, 23] → ∀ j, j / 160 = s → x.2.2.1 k j = u.2.2.1 k j) ∧ (∀ k, k ∈ [28, 29, 30, 31, 32, 33, 38, 39] → ∀ j, j / 24 = s → x.2.2.1 k j = u.2.2.1 k j) ∧ (∀ k, k ∈ [43, 44, 45] → ∀ j, j / 8 = s → x.2.2.1 k j = u.2.2.1 k j) ∧ (∀ k, k ∈ [19, 27, 36, 37, 42, 48] → x.2.2.1 k s = u.2.2.1 k s) ∧ (∀ k, k ∈ [16, 17, 18, 24, 25, 26] → ∀ j, j / 160 = s → x.2.2.2 k j = u.2.2.2 k j) ∧ (∀ k, k ∈ [34, 35, 40, 41] → ∀ j, j / 24 = s → x.2.2.2 k j = u.2.2.2 k j) ∧ (∀ k, k ∈ [46, 47] → ∀ j, j / 8 = s → x.2.2.2 k j = u.2.2.2 k j)
section Tbm
variable {v w : CSt} {u x : RSt} {q s s' T G : Nat}
theorem sso_sd (h : sd s' u x) (hs : s ≠ s') : sso s u x := ⟨fun k hk j hj => h.1 k hk j (by omega), fun k hk j hj => h.2.1 k hk j (by omega), fun k hk j hj => h.2.2.1 k hk j (by omega), fun k hk => h.2.2.2.1 k hk s hs, fun k hk j hj => h.2.2.2.2.1 k hk j (by omega), fun k hk j hj => h.2.2.2.2.2.1 k hk j (by omega), fun k hk j hj => h.2.2.2.2.2.2 k hk j (by omega)⟩
theorem RVx_so (h : sso s u x) (hT : (u.2.2.1 19 s).toInt ≤ 160) : RVx u x s := by
  refine ⟨by rw [h.2.2.2.1 19 (by decide)]; exact Int.le_refl _, fun k hk => ⟨fun c hc => h.1 c (by simp only [List.mem_cons, List.not_mem_nil, or_false] at hc ⊢; omega) _ (by omega), fun c hc => h.2.2.2.2.1 c (by simp only [List.mem_cons, List.not_mem_nil, or_false] at hc ⊢; omega) _ (by omega)⟩⟩
theorem RKx_so (h : sso s u x) (h8 : (u.2.2.1 48 s).toInt ≤ 8) : RKx u x s := by
  refine ⟨by rw [h.2.2.2.1 48 (by decide)]; exact Int.le_refl _, fun k hk => ⟨fun c hc => h.2.2.1 c (by simp only [List.mem_cons, List.not_mem_nil, or_false] at hc ⊢; omega) _ (by omega), fun c hc => h.2.2.2.2.2.2 c hc _ (by omega)⟩⟩
theorem RNx_so (h : sso s u x) (h8 : (u.2.2.1 36 s).toInt ≤ 8) (h16 : (u.2.2.1 37 s).toInt ≤ 16) : RNx u x s := by
  refine ⟨by rw [h.2.2.2.1 36 (by decide)]; exact Int.le_refl _, by rw [h.2.2.2.1 37 (by decide)]; exact Int.le_refl _, fun k hk c hc => h.2.2.2.2.2.1 c (by simp only [List.mem_cons, List.not_mem_nil, or_false] at hc ⊢; omega) _ (by omega), fun k hk c hc => h.2.2.2.2.2.1 c (by simp only [List.mem_cons, List.not_mem_nil, or_false] at hc ⊢; omega) _ (by omega)⟩
theorem TRq1_c {y : Nat} (hn : CNa v w q y) (hr : RVx u x s) (hv : TRv1 v u q s y) (h : TRq1 v u q s y) : TRq1 w x q s y := by
  obtain ⟨k, k1, k2, -, -, -, -, -, -, -, -, k11⟩ := hv
  obtain ⟨m1, m2⟩ := hn
  obtain ⟨t1, t2⟩ := hr.2 k k11
  have nk := n_of k1
  unfold TRq1 at h ⊢
  rw [m1 4 (by decide), m1 5 (by decide), m1 6 (by decide), m1 7 (by decide), m1 8 (by decide), m1 9 (by decide)]
  rw [nk] at h ⊢
  rw [t1 14 (by decide), t1 15 (by decide)]
  exact h
theorem TRq1_of {y : Nat} (h : TRp1 v u q s y) (h12 : (cI v 12).toInt ≤ 2000) : TRq1 v u q s y := by
  obtain ⟨h1, h2, h3⟩ := h
  refine ⟨h1, h2, ?_⟩
  rcases h3 with ⟨b1, b2, b3, b4, b5⟩ | h3
  · exact Or.inl ⟨b1, b2, b3, b4, by omega⟩
  · exact Or.inr h3
theorem TRf1_n {y : Nat} (hc : CNa v w q y) (hn : gl v (169 * q + y) → 0 ≤ (mI v (169 * q + y) 4).toInt) (hk : RKx u x s) (hb : RNx u x s) (h : TRf1 v u q s y) : TRf1 w x q s y := by
  unfold TRf1 rN at h ⊢
  rw [hc.1 1 (by decide), hc.1 2 (by decide), hc.1 4 (by decide), hc.2 0]
  obtain ⟨h1, h2, h3⟩ := h
  refine ⟨fun z => ?_, fun z => ?_, fun z => ?_⟩
  · obtain ⟨a1, a2⟩ := h1 z
    have n4 := nat4 (hn (by unfold gl; rw [z]; decide))
    obtain ⟨-, t2⟩ := hk.2 (mI v (169 * q + y) 4).toNatClampNeg (by omega)
    rw [t2 46 (by decide), t2 47 (by decide)]
    exact ⟨by have := hk.1; omega, a2⟩
  · obtain ⟨a1, a2⟩ := h2 z
    have n4 := nat4 (hn (by unfold gl; rw [z]; decide))
    have t2 := hb.2.2.1 (mI v (169 * q + y) 4).toNatClampNeg (by omega)
    rw [t2 34 (by decide), t2 35 (by decide)]
    exact ⟨by have := hb.1; omega, a2⟩
  · obtain ⟨a1, a2⟩ := h3 z
    have n4 := nat4 (hn (by unfold gl; rw [z]; decide))
    have t2 := hb.2.2.2 (mI v (169 * q + y) 4).toNatClampNeg (by omega)
    rw [t2 34 (by decide), t2 35 (by decide)]
    exact ⟨by have := hb.2.1; omega, a2⟩
/-- the tables stay -/
theorem TBM_cong (h : TBM v u q s T) (hn : ∀ y, y < 169 → CNa v w q y) (h12 : pI w q 12 = pI v q 12) (hP : ∀ k, k ∈ [4, 5, 6, 7, 8, 9] → pA w q k = pA v q k) (ho : sso s u x) : TBM w x q s T := by
  obtain ⟨t1, t2, t3, t4, t5, ⟨t6, t6'⟩, t7, t8, t9, t10, ⟨t11, t12⟩⟩ := h
  have gc : ∀ y, y < 169 → (gl w (169 * q + y) ↔ gl v (169 * q + y)) := fun y hy => by
    unfold gl
    rw [(hn y hy).1 2 (by decide)]
  have e4 : (4 : Int32).toInt = 4 := by decide
  have c := t7
  unfold CTN at c
  obtain ⟨c1, c2, c3, c4, c5, ⟨d1, d2⟩, ⟨d3, d4⟩, ⟨d5, d6⟩, ⟨d7, d8⟩, ⟨d9, d10⟩, ⟨d11, d12⟩⟩ := c
  have rv : RVx u x s := RVx_so ho (by omega)
  have rk : RKx u x s := RKx_so ho d6
  have rn : RNx u x s := RNx_so ho d8 d10
  refine ⟨by rw [h12]; exact t1, t2, fun y hy => ?_, fun y hy hg => ?_, fun y hy hs => ?_, ⟨fun y hy hg => ?_, fun p hp k hk => ?_⟩, ?_, fun y hy hs => ?_, fun y hy => TRf1_n (hn y (by omega)) (t4 y hy) rk rn (t9 y hy), fun y hy hs => ?_, ⟨fun y y' hy hy' hg hg' a b => ?_, fun y hy hg k hk => ?_⟩⟩
  · rw [(hn y (by omega)).1 3 (by decide), (hn y (by omega)).1 2 (by decide)]
    exact t3 y hy
  · rw [(hn y (by omega)).1 4 (by decide)]
    exact t4 y hy ((gc _ (by omega)).mp hg)
  · rw [(hn y (by omega)).1 2 (by decide)] at hs
    exact TRv1_c (hn y (by omega)) rv (t5 y hy hs)
  · have hgv := (gc _ (by omega)).mp hg
    obtain ⟨x1, x2, x3⟩ := t3 y hy
    have hp : (mI v (169 * q + y) 2).toNatClampNeg ≤ 4 := by
      have : ¬ (4 : Int32).toInt < (mI v (169 * q + y) 2).toInt := fun z => hgv (Int32.lt_iff_toInt_lt.mpr z)
      show (mI v (169 * q + y) 2).toInt.toNat ≤ 4
      omega
    rw [(hn y (by omega)).1 2 (by decide), (hn y (by omega)).1 4 (by decide), hP 9 (by decide), hP _ (show 4 + (mI v (169 * q + y) 2).toNatClampNeg ∈ [4, 5, 6, 7, 8, 9] by simp only [List.mem_cons, List.not_mem_nil, or_false]; omega)]
    exact t6 y hy hgv
  · rw [hP 9 (by decide)] at hk
    obtain ⟨y, y1, y2, y3, y4⟩ := t6' p hp k hk
    refine ⟨y, y1, ?_, ?_, ?_⟩
    · rw [hP _ (show 4 + p ∈ [4, 5, 6, 7, 8, 9] by simp only [List.mem_cons, List.not_mem_nil, or_false]; omega)]; exact y2
    · rw [(hn y (by omega)).1 2 (by decide)]; exact y3
    · rw [(hn y (by omega)).1 4 (by decide)]; exact y4
  · unfold CTN
    rw [hP 9 (by decide), ho.2.2.2.1 19 (by decide), ho.2.2.2.1 42 (by decide), ho.2.2.2.1 48 (by decide), ho.2.2.2.1 36 (by decide), ho.2.2.2.1 37 (by decide), ho.2.2.2.1 27 (by decide)]
    exact ⟨c1, c2, c3, c4, c5, ⟨d1, d2⟩, ⟨d3, d4⟩, ⟨d5, d6⟩, ⟨d7, d8⟩, ⟨d9, d10⟩, ⟨d11, d12⟩⟩
  · rw [(hn y (by omega)).1 2 (by decide)] at hs
    exact TRq1_c (hn y (by omega)) rv (t5 y hy hs) (t8 y hy hs)
  · rw [(hn y (by omega)).1 2 (by decide)] at hs
    obtain ⟨k, r, k1, k2, k3, k4, k5, k6, k7, k8, k9⟩ := t10 y hy hs
    refine ⟨k, r, ?_, k2, k3, ?_, ?_, ?_, ?_, ?_, ?_⟩
    · rw [(hn y (by omega)).1 4 (by decide)]; exact k1
    · rw [(hn y (by omega)).1 14 (by decide)]; exact k4
    · rw [(hn r (by omega)).1 2 (by decide)]; exact k5
    · have eb : bk w (169 * q + r) s = bk v (169 * q + r) s := by
        unfold bk
        rw [(hn r (by omega)).1 2 (by decide), (hn r (by omega)).1 4 (by decide)]
      rw [eb, ho.2.1 38 (by decide) _ (by omega)]
      exact k6
    · rw [ho.2.1 39 (by decide) _ (by omega), (hn y (by omega)).1 9 (by decide)]; exact k7
    · unfold rN at k8 ⊢
      rw [ho.2.2.2.2.2.1 40 (by decide) _ (by omega), ho.2.2.2.2.2.1 41 (by decide) _ (by omega), (hn y (by omega)).2 0, (hn y (by omega)).1 1 (by decide)]
      exact k8
    · rw [ho.2.2.2.1 42 (by decide)]; exact k9
  · rw [(hn y (by omega)).2 0, (hn y' (by omega)).2 0] at a
    rw [(hn y (by omega)).1 1 (by decide), (hn y' (by omega)).1 1 (by decide)] at b
    exact t11 y y' hy hy' ((gc _ (by omega)).mp hg) ((gc _ (by omega)).mp hg') a b
  · rw [(hn (160 + k) (by omega)).2 0, (hn y (by omega)).2 0, (hn y (by omega)).1 1 (by decide)]
    exact t12 y hy ((gc _ (by omega)).mp hg) k hk
/-- what load made -/
theorem TBM_of {n i o : Nat} (h : IT v u q s n i o T G) : TBM v u q s T := by
  obtain ⟨-, -, -, -, hT, hT2⟩ := h
  obtain ⟨t1, t2, t3, t4, t5, t5', t6, t7, t8, t9, t10, t11, t12, t13, t14, t15, t16, t17⟩ := hT
  obtain ⟨s1, s2, s3, s4, s5, s6, s7⟩ := hT2
  have c12 : (cI v 12).toInt ≤ 2000 := by
    obtain ⟨a1, a2, a3⟩ := s3
    have b0 := (a1 0 (by decide)).2.2
    have b1 := (a1 1 (by decide)).2.2
    have b2 := (a1 2 (by decide)).2.2
    have b3 := (a1 3 (by decide)).2.2
    have b4 := (a1 4 (by decide)).2.2
    omega
  exact ⟨t1, t2, t11, t12, t15, s1, s2, fun y hy hs => TRq1_of (s4 y hy hs) c12, s5, t17, t13.2.2.1, t13.2.2.2⟩
/-- nothing is loaded -/
theorem TBM_0 (h12 : pI v q 12 = 0) (p9 : ∀ k, k < 5 → pA v q 9 k = 0) (hz : ∀ k, k ∈ [19, 27, 36, 37, 42, 48] → u.2.2.1 k s = 0) : TBM v u q s 0 := by
  have e0 : (0 : Int32).toInt = 0 := by decide
  have nx : ∀ {P : Prop} {x : Nat}, x < 0 → P := fun h => absurd h (Nat.not_lt_zero _)
  refine ⟨by rw [h12, e0]; rfl, by omega, fun x hx => nx hx, fun x hx => nx hx, fun x hx => nx hx, ⟨fun y hy => nx hy, fun sso hso k hk => ?_⟩, ?_, fun y hy => nx hy, fun y hy => nx hy, fun y hy => nx hy, fun y y' hy => nx hy, fun y hy => nx hy⟩
  · rw [p9 sso (by omega), e0] at hk
    omega
  · unfold CTN
    rw [p9 0 (by decide), p9 1 (by decide), p9 2 (by decide), p9 3 (by decide), p9 4 (by decide), hz 19 (by decide), hz 27 (by decide), hz 36 (by decide), hz 37 (by decide), hz 42 (by decide), hz 48 (by decide), e0]
    exact ⟨rfl, rfl, rfl, rfl, rfl, ⟨by decide, by decide⟩, ⟨by decide, by decide⟩, ⟨by decide, by decide⟩, ⟨by decide, by decide⟩, ⟨by decide, by decide⟩, ⟨by decide, by decide⟩⟩
end Tbm
