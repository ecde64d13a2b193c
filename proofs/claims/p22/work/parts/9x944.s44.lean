/-! The second pass: the tables of both tell the same. -/
def rN (v : CSt) (u : RSt) (m a b k : Nat) : Prop := NmR (mL v m 0) (mI v m 1) (u.2.2.2 a k) (u.2.2.2 b k)
def TRx (v : CSt) (q T : Nat) : Prop := ∀ x, x < T → (mI v (169 * q + x) 3).toInt = x ∧ 0 ≤ (mI v (169 * q + x) 2).toInt ∧ (mI v (169 * q + x) 2).toInt ≤ 6
def gE (v : CSt) (u : RSt) (m y : Nat) : Prop := rN v u m 57 58 y ∧ u.2.2.1 59 y = mI v m 2 ∧ u.2.2.1 60 y = mI v m 4
def TRg (v : CSt) (u : RSt) (q T G : Nat) : Prop := (∀ x, x < T → gl v (169 * q + x) → ∃ y, 8 ≤ y ∧ y < G ∧ gE v u (169 * q + x) y) ∧ (∀ y, 8 ≤ y → y < G → ∃ x, x < T ∧ gl v (169 * q + x) ∧ gE v u (169 * q + x) y) ∧ (∀ x x', x < T → x' < T → gl v (169 * q + x) → gl v (169 * q + x') → mL v (169 * q + x) 0 = mL v (169 * q + x') 0 → mI v (169 * q + x) 1 = mI v (169 * q + x') 1 → x = x') ∧ (∀ x, x < T → gl v (169 * q + x) → ∀ k, k < 8 → ¬ (mI v (169 * q + x) 1 = 0 ∧ mL v (169 * q + x) 0 = mL v (169 * q + (160 + k)) 0))
def TR8 (v : CSt) (u : RSt) (q : Nat) : Prop := mI v (169 * q + 168) 2 = 8 ∧ mI v (169 * q + 168) 12 = 0 ∧ -1 ≤ (mI v (169 * q + 168) 3).toInt ∧ (mI v (169 * q + 168) 3).toInt ≤ 300 ∧ (∀ k, k < 8 → mI v (169 * q + (160 + k)) 2 = 7 ∧ NmR (mL v (169 * q + (160 + k)) 0) 0 (u.2.2.2 57 k) (u.2.2.2 58 k) ∧ u.2.2.1 59 k = 5 ∧ u.2.2.1 60 k = Int32.ofNat k ∧ EI v (169 * q + (160 + k)) (Int32.ofNat k)) ∧ (∀ k k', k < 8 → k' < 8 → mL v (169 * q + (160 + k)) 0 = mL v (169 * q + (160 + k')) 0 → k = k')
def TRv (v : CSt) (u : RSt) (q s T : Nat) : Prop := ∀ x, x < T → mI v (169 * q + x) 2 = 0 → ∃ k : Nat, (mI v (169 * q + x) 4).toInt = k ∧ k < 160 ∧ u.2.2.1 10 (160 * s + k) = mI v (169 * q + x) 5 ∧ u.2.2.1 11 (160 * s + k) = mI v (169 * q + x) 7 ∧ u.2.2.1 12 (160 * s + k) = mI v (169 * q + x) 6 ∧ u.2.2.1 13 (160 * s + k) = mI v (169 * q + x) 8 ∧ u.2.2.2 16 (160 * s + k) = mL v (169 * q + x) 10 ∧ rN v u (169 * q + x) 17 18 (160 * s + k) ∧ KD (mI v (169 * q + x) 5) ∧ B01 (mI v (169 * q + x) 8) ∧ (k : Int) < (u.2.2.1 19 s).toInt
def bk (v : CSt) (m s : Nat) : Nat := if mI v m 2 = 3 then 24 * s + (mI v m 4).toNatClampNeg else 24 * s + 8 + (mI v m 4).toNatClampNeg
/-- a parameter or local: the class's name m, the reference's slot y -/
def sE (v : CSt) (u : RSt) (m y : Nat) : Prop := u.2.2.1 20 y = mI v m 5 ∧ u.2.2.1 21 y = mI v m 7 ∧ u.2.2.1 22 y = mI v m 8 ∧ u.2.2.1 23 y = mI v m 9 ∧ u.2.2.2 24 y = mL v m 10 ∧ rN v u m 25 26 y ∧ KD (mI v m 5) ∧ B01 (mI v m 8)
/-- a routine r with K parameters and locals, P of them parameters; the reference's slots from F on -/
def RRr (v : CSt) (u : RSt) (q s T r K F P : Nat) : Prop := 0 ≤ (mI v (169 * q + r) 4).toInt ∧ (mI v (169 * q + r) 4).toInt ≤ 15 ∧ (mI v (169 * q + r) 2 = 3 → (mI v (169 * q + r) 4).toInt ≤ 7) ∧ (mI v (169 * q + r) 12).toInt = K ∧ r + 1 + K ≤ T ∧ (u.2.2.1 28 (bk v (169 * q + r) s)).toInt = F ∧ (u.2.2.1 29 (bk v (169 * q + r) s)).toInt = K ∧ (F + K : Nat) ≤ (u.2.2.1 27 s).toInt ∧ (u.2.2.1 27 s).toInt ≤ 160 ∧ u.2.2.1 30 (bk v (169 * q + r) s) = mI v (169 * q + r) 11 ∧ (mI v (169 * q + r) 11).toInt = P ∧ P ≤ K ∧ P ≤ 6 ∧ u.2.2.1 31 (bk v (169 * q + r) s) = mI v (169 * q + r) 7 ∧ (mI v (169 * q + r) 2 = 4 → KD (mI v (169 * q + r) 5) ∧ mI v (169 * q + r) 5 = u.2.2.1 33 (bk v (169 * q + r) s)) ∧ (∀ j, j < K → mI v (169 * q + (r + 1 + j)) 2 = (if j < P then 5 else 6) ∧ sE v u (169 * q + (r + 1 + j)) (160 * s + (F + j))) ∧ (∀ j j', j < K → j' < K → mL v (169 * q + (r + 1 + j)) 0 = mL v (169 * q + (r + 1 + j')) 0 → mI v (169 * q + (r + 1 + j)) 1 = mI v (169 * q + (r + 1 + j')) 1 → j = j')
def TRr (v : CSt) (u : RSt) (q s T : Nat) : Prop := ∀ r, r < T → (mI v (169 * q + r) 2 = 3 ∨ mI v (169 * q + r) 2 = 4) → ∃ K F P, RRr v u q s T r K F P ∧ (mI v (169 * q + r) 2 = 3 → (mI v (169 * q + r) 4).toInt < (u.2.2.1 36 s).toInt) ∧ (mI v (169 * q + r) 2 = 4 → (mI v (169 * q + r) 4).toInt < (u.2.2.1 37 s).toInt)
def TRi (v : CSt) (u : RSt) (q s T : Nat) : Prop := ∀ x, x < T → mI v (169 * q + x) 2 = 1 → ∃ k r : Nat, (mI v (169 * q + x) 4).toInt = k ∧ k < 24 ∧ r < T ∧ (mI v (169 * q + x) 14).toInt = r ∧ mI v (169 * q + r) 2 = 3 ∧ (u.2.2.1 38 (24 * s + k)).toInt = (bk v (169 * q + r) s : Nat) ∧ u.2.2.1 39 (24 * s + k) = mI v (169 * q + x) 9 ∧ rN v u (169 * q + x) 40 41 (24 * s + k) ∧ (k : Int) < (u.2.2.1 42 s).toInt
/-- numbers of globals: none is below 0 -/
def TRn (v : CSt) (q T : Nat) : Prop := ∀ x, x < T → gl v (169 * q + x) → 0 ≤ (mI v (169 * q + x) 4).toInt
def TR (v : CSt) (u : RSt) (q s T G : Nat) : Prop := (pI v q 12).toInt = T ∧ T ≤ 160 ∧ u.1 62 = pI v q 12 ∧ (u.1 61).toInt = G ∧ G ≤ 8 + T ∧ 8 ≤ G ∧ (u.1 56).toInt = s ∧ s < 2 ∧ q < 2 ∧ cR v 2 = q ∧ cR v 3 = q ∧ TRx v q T ∧ TRn v q T ∧ TRg v u q T G ∧ TR8 v u q ∧ TRv v u q s T ∧ TRr v u q s T ∧ TRi v u q s T
/-- who is open -/
def OWN (v : CSt) (u : RSt) (q s T : Nat) : Prop := ((pI v q 15).toInt < 0 ∧ u.1 70 ≤ 1) ∨ (∃ r K F P, r < T ∧ (pI v q 15).toInt = (r : Int) ∧ (mI v (169 * q + r) 2 = 3 ∨ mI v (169 * q + r) 2 = 4) ∧ RRr v u q s T r K F P ∧ r + 1 + K = T ∧ (u.1 72).toInt = F ∧ (u.2.2.1 27 s).toInt = (F + K : Nat) ∧ ¬ u.1 70 ≤ 1 ∧ (mI v (169 * q + r) 2 = 4 ↔ u.1 70 = 3) ∧ (u.1 71).toInt = (bk v (169 * q + r) s : Nat) ∧ u.1 73 = mI v (169 * q + r) 7)
section Tb
variable {v0 v : CSt} {u0 u : RSt} {i n q s T G r K F P N : Nat}
theorem m24 {a b : Int32} {s : Nat} {k : Nat} (h : a.toInt = (s : Int)) (hs : s < 2) (hb : b.toInt = (k : Int)) (hk : k ≤ 200) : (24 * a + b).toInt = (24 * s + k : Nat) ∧ (160 * a + b).toInt = (160 * s + k : Nat) ∧ (24 * a + 8 + b).toInt = (24 * s + 8 + k : Nat) := by
  have e24 : (24 : Int32).toInt = 24 := by decide
  have e160 : (160 : Int32).toInt = 160 := by decide
  have e8 : (8 : Int32).toInt = 8 := by decide
  have a1 : (24 * a).toInt = (24 * s : Nat) := by rw [tI_mul (by rw [e24, h]; omega) (by rw [e24, h]; omega), e24, h]; omega
  have a2 : (160 * a).toInt = (160 * s : Nat) := by rw [tI_mul (by rw [e160, h]; omega) (by rw [e160, h]; omega), e160, h]; omega
  have a3 : (24 * a + 8).toInt = (24 * s + 8 : Nat) := by rw [tI_add (by omega) (by omega), a1, e8]; omega
  refine ⟨?_, ?_, ?_⟩
  · rw [tI_add (by omega) (by omega), a1, hb]; omega
  · rw [tI_add (by omega) (by omega), a2, hb]; omega
  · rw [tI_add (by omega) (by omega), a3, hb]; omega
theorem PA_of (h : RRr v0 u0 q s T r K F P) (h8 : mI v0 (169 * q + 168) 2 = 8) (hT : (pI v0 q 12).toInt = (T : Int)) (hT2 : T ≤ 160) (hx : (mI v0 (169 * q + r) 3).toInt = r) (hq : cR v0 3 = q) (hs : (u0.1 56).toInt = (s : Int)) (hs2 : s < 2) {p : Nat} (hp : p = bk v0 (169 * q + r) s) : PA v0 u0 (169 * q + r) p := by
  obtain ⟨a1, a2, a3, a4, a5, a6, a7, a8, a9, a10, a11, a12, a13, a14, a15, a16, a17⟩ := h
  subst hp
  have e1 : (1 : Int32).toInt = 1 := by decide
  have e0 : (0 : Int32).toInt = 0 := by decide
  refine ⟨a10.symm, by omega, by omega, fun k hk => ?_⟩
  have ki : (Int32.ofNat k).toInt = k := ofN_i (by omega)
  by_cases hkK : k < K
  · obtain ⟨b1, b2⟩ := a16 k hkK
    refine ⟨169 * q + (r + 1 + k), fun N v i l e h => ?_, ?_, fun hkp => ?_⟩
    · rw [hq]
      unfold F_X6_local B_X6_local_0
      refine pq_if (fun c => ?_) (fun _ => ?_)
      · have := Int32.lt_iff_toInt_lt.mp c
        omega
      · rw [h.nm, h.nm]
        refine pq_if (fun c => ?_) (fun _ => ?_)
        · have := Int32.le_iff_toInt_le.mp c
          omega
        · have ei : (mI v0 (169 * q + r) 3 + 1 + Int32.ofNat k).toInt = (r + 1 + k : Nat) := by
            have : (mI v0 (169 * q + r) 3 + 1).toInt = (r + 1 : Nat) := by rw [tI_add (by omega) (by omega), e1, hx]; omega
            rw [tI_add (by omega) (by omega), this, ki]
            omega
          refine pq_bc (pq_m (k2_name ei (by rw [h.pi q (by decide)]; exact hT) (by omega)) (fun x w hw => ?_))
          rw [hw.1, hw.2]
          exact pq_ok (fun _ => pq_some ⟨rfl, rfl⟩)
    · rw [b1, a11]
      by_cases y : k < P
      · rw [if_pos y]
        exact ⟨fun _ => by omega, fun _ => rfl⟩
      · rw [if_neg y]
        exact ⟨fun q => absurd q (by decide), fun q => by omega⟩
    · refine ⟨b2.2.2.2.2.2.2.1, ?_⟩
      have : (160 * u0.1 56 + u0.2.2.1 28 (bk v0 (169 * q + r) s) + Int32.ofNat k).toNatClampNeg = 160 * s + (F + k) := by
        have := (m24 hs hs2 a6 (by omega)).2.1
        refine n_of ?_
        rw [tI_add (by omega) (by omega), this, ki]
        omega
      rw [this]
      exact b2.1.symm
  · refine ⟨169 * q + 168, fun N v i l e h => ?_, ?_, fun hkp => by omega⟩
    · rw [hq]
      unfold F_X6_local B_X6_local_0
      refine pq_if (fun c => ?_) (fun _ => ?_)
      · have := Int32.lt_iff_toInt_lt.mp c
        omega
      · rw [h.nm]
        refine pq_if (fun _ => pq_some ⟨rfl, rfl⟩) (fun c => ?_)
        exact absurd (Int32.le_iff_toInt_le.mpr (by omega)) c
    · rw [h8]
      exact ⟨fun q => absurd q (by decide), fun q => by omega⟩
/-- the reference's search behind an instance -/
theorem y_inner {b : Int32} (h : RRr v0 u0 q s T r K F P) (hs : (u0.1 56).toInt = (s : Int)) (hs2 : s < 2) (hj : ¬ u0.1 69 = 0) (hb : b.toInt = (bk v0 (169 * q + r) s : Nat)) {x : Int32} (hx : (x = -1 ∧ ∀ j, j < K → ¬ (u0.2.2.2 25 (160 * s + (F + j)) = u0.2.2.2 6 i ∧ u0.2.2.2 26 (160 * s + (F + j)) = u0.2.2.2 7 i)) ∨ (∃ j, j < K ∧ x.toInt = (160 * s + (F + j) : Nat) ∧ (u0.2.2.2 25 (160 * s + (F + j)) = u0.2.2.2 6 i ∧ u0.2.2.2 26 (160 * s + (F + j)) = u0.2.2.2 7 i) ∧ ∀ j', j' < K → (u0.2.2.2 25 (160 * s + (F + j')) = u0.2.2.2 6 i ∧ u0.2.2.2 26 (160 * s + (F + j')) = u0.2.2.2 7 i) → j' = j)) {ro : Nat → Int32 → Int32 → RSt → Option (Int32 × RSt)} {l1 l2 : Int32} {o l : Nat} {c : R5} {Q : Int32 → RSt → Prop} (h' : RE u0 u i o l c) (kk : pp (B_inner_198 N ro l1 l2 x u) Q) : pp (LP_inner_102 N ro N (l1, l2, -1, b, 0, u)) Q := by
  obtain ⟨a1, a2, a3, a4, a5, a6, a7, a8, a9, -⟩ := h
  have e1 : (1 : Int32).toInt = 1 := by decide
  have nb := n_of hb
  have loop : ∀ (M : Nat) (a : Int32 × Int32 × Int32 × Int32 × Int32 × RSt), (a.1 = l1 ∧ a.2.1 = l2 ∧ a.2.2.2.1 = b ∧ a.2.2.2.2.2 = u ∧ ∃ y : Nat, a.2.2.2.2.1.toInt = y ∧ y ≤ K ∧ ((a.2.2.1 = -1 ∧ ∀ j, j < y → ¬ (u0.2.2.2 25 (160 * s + (F + j)) = u0.2.2.2 6 i ∧ u0.2.2.2 26 (160 * s + (F + j)) = u0.2.2.2 7 i)) ∨ (a.2.2.1 = x ∧ ∃ j, j < y ∧ u0.2.2.2 25 (160 * s + (F + j)) = u0.2.2.2 6 i ∧ u0.2.2.2 26 (160 * s + (F + j)) = u0.2.2.2 7 i))) → pp (LP_inner_102 N ro M a) Q := by
    refine pp_lp (Z := fun _ => Q) (fun (a : Int32 × Int32 × Int32 × Int32 × Int32 × RSt) => a.1 = l1 ∧ a.2.1 = l2 ∧ a.2.2.2.1 = b ∧ a.2.2.2.2.2 = u ∧ ∃ y : Nat, a.2.2.2.2.1.toInt = y ∧ y ≤ K ∧ ((a.2.2.1 = -1 ∧ ∀ j, j < y → ¬ (u0.2.2.2 25 (160 * s + (F + j)) = u0.2.2.2 6 i ∧ u0.2.2.2 26 (160 * s + (F + j)) = u0.2.2.2 7 i)) ∨ (a.2.2.1 = x ∧ ∃ j, j < y ∧ u0.2.2.2 25 (160 * s + (F + j)) = u0.2.2.2 6 i ∧ u0.2.2.2 26 (160 * s + (F + j)) = u0.2.2.2 7 i))) ?_
    rintro R ⟨y1, y2, y3, y4, y5, z⟩ ⟨h1, h2, h3, h4, y, h5, h6, h7⟩ ih
    dsimp only at h1 h2 h3 h4 h5 h7
    subst h1 h2 h3 h4
    show pp (B_inner_102 N ro R y1 y2 y3 y4 y5 z) _
    unfold B_inner_102 B_inner_192
    rw [if_neg (by rw [h'.sc (by decide)]; exact hj), if_pos h'.2.1]
    refine pp_rd ?_
    rw [h'.row (by decide), nb]
    refine pp_if (fun cc => ?_) (fun cc => ?_)
    · have := Int32.le_iff_toInt_le.mp cc
      have ey : y = K := by omega
      subst ey
      have : y3 = x := by
        rcases h7 with ⟨g1, g2⟩ | ⟨g1, -⟩
        · rcases hx with ⟨k1, -⟩ | ⟨j, k1, -, k3, -⟩
          · rw [g1, k1]
          · exact absurd k3 (g2 j k1)
        · exact g1
      rw [this]
      exact kk
    · have c' := Int32.lt_iff_toInt_lt.mp (Int32.not_le.mp cc)
      refine pp_rd ?_
      rw [h'.row (by decide), nb, h'.sc (k := 56) (by decide)]
      have ei : (160 * u0.1 56 + u0.2.2.1 28 (bk v0 (169 * q + r) s) + y5).toInt = (160 * s + (F + y) : Nat) := by
        have := (m24 hs hs2 a6 (by omega)).2.1
        rw [tI_add (by omega) (by omega), this, h5]
        omega
      have en := n_of ei
      have y5n : (y5 + 1).toInt = (y + 1 : Nat) := by rw [tI_add (by omega) (by omega), e1, h5]; omega
      have no : ¬ (u0.2.2.2 25 (160 * s + (F + y)) = u0.2.2.2 6 i ∧ u0.2.2.2 26 (160 * s + (F + y)) = u0.2.2.2 7 i) → pp (R (y1, y2, y3, y4, y5 + 1, z)) Q := by
        intro hn
        refine ih _ ⟨rfl, rfl, rfl, rfl, y + 1, y5n, by omega, ?_⟩
        rcases h7 with ⟨g1, g2⟩ | ⟨g1, j, g2, g3⟩
        · refine Or.inl ⟨g1, fun j hjy => ?_⟩
          rcases Nat.lt_or_eq_of_le (Nat.lt_succ_iff.mp hjy) with w | w
          · exact g2 j w
          · rw [w]; exact hn
        · exact Or.inr ⟨g1, j, by omega, g3⟩
      refine pp_rd ?_
      rw [h'.lrow (k := 25) (by decide), en]
      refine y_rB h' (by decide) (pp_if (fun z1 => pp_rd ?_) (fun z1 => no (fun w => z1 w.1)))
      rw [h'.lrow (k := 26) (by decide), en]
      refine y_rB h' (by decide) (pp_if (fun z2 => ?_) (fun z2 => no (fun w => z2 w.2)))
      refine ih _ ⟨rfl, rfl, rfl, rfl, y + 1, y5n, by omega, Or.inr ⟨?_, y, by omega, z1, z2⟩⟩
      rcases hx with ⟨-, k2⟩ | ⟨j, k1, k2, k3, k4⟩
      · exact absurd ⟨z1, z2⟩ (k2 y (by omega))
      · have := k4 y (by omega) ⟨z1, z2⟩
        subst this
        exact tI_eq.mpr (ei.trans k2.symm)
  refine loop N (l1, l2, -1, b, 0, u) ⟨rfl, rfl, rfl, rfl, 0, z32, Nat.zero_le _, Or.inl ⟨rfl, fun j hjy => absurd hjy (Nat.not_lt_zero _)⟩⟩
end Tb
