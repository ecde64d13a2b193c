/-! The second pass with the code told: what NAMEs mean to both runs, by the tables. -/
/-- who a NAME is -/
def WHO (v0 : CSt) (q s T b K F m : Nat) (sl : Int32) (g : Int32 → Int32) : Prop := (∃ j, j < K ∧ m = 169 * q + (b + j) ∧ sl.toInt = (160 * s + (F + j) : Nat)) ∨ (∃ x, x < T ∧ gl v0 (169 * q + x) ∧ m = 169 * q + x ∧ sl = -1 ∧ g = (fun a => if mI v0 (169 * q + x) 2 = a then mI v0 (169 * q + x) 4 else -1)) ∨ (∃ k, k < 8 ∧ m = 169 * q + (160 + k) ∧ sl = -1 ∧ g 5 = Int32.ofNat k) ∨ (m = 169 * q + 168)
/-- what a run of code made now needs of the final state: the names told so far, by the class's tables -/
def PHI (N : Nat) (v0 : CSt) (q s T : Nat) : CSt → RSt → Nat → (Nat → Int32) → Nat → Prop := fun vF uF g gk n =>
  ((cI vF 23).toInt = (g : Int) ∧ (uF.1 105).toInt = (g : Int) ∧ cI vF 22 = uF.1 104) ∧
  (∀ y, y < T → mI v0 (169 * q + y) 2 = 0 → (mI v0 (169 * q + y) 6 = 0 ∨ mI v0 (169 * q + y) 6 = 1) → ∀ j : Nat, (j : Int) < (mI v0 (169 * q + y) 7).toInt → gk ((mI v0 (169 * q + y) 9).toNatClampNeg + j) = mI v0 (169 * q + y) 5) ∧
  (∀ y, y < T → mI v0 (169 * q + y) 2 = 1 → ∀ r : Nat, (mI v0 (169 * q + y) 14).toInt = (r : Int) → ∀ k : Nat, (k : Int) < (mI v0 (169 * q + r) 12).toInt → ∀ j : Nat, (j : Int) < (mI v0 (169 * q + (r + 1 + k)) 7).toInt → gk ((mI v0 (169 * q + y) 9).toNatClampNeg + (mI v0 (169 * q + (r + 1 + k)) 9).toNatClampNeg + j) = mI v0 (169 * q + (r + 1 + k)) 5) ∧
  (∀ y, y < T → mI v0 (169 * q + y) 2 = 4 → FNC N vF uF g gk (mI v0 (169 * q + y) 3) (Int32.ofNat (24 * s + 8 + (mI v0 (169 * q + y) 4).toNatClampNeg)) (mI v0 (169 * q + y) 11).toNatClampNeg (fun i => mI v0 (169 * q + (y + 1 + i)) 5) (mI v0 (169 * q + y) 5) n) ∧
  (∀ y, y < T → mI v0 (169 * q + y) 2 = 1 → INC N vF uF g gk (mI v0 (169 * q + y) 3) (Int32.ofNat (24 * s + (mI v0 (169 * q + y) 4).toNatClampNeg)) n)
/-- where instances lie -/
def INX (v0 : CSt) (q T : Nat) : Prop := ∀ y, y < T → mI v0 (169 * q + y) 2 = 1 → ∀ r : Nat, (mI v0 (169 * q + y) 14).toInt = (r : Int) → 0 ≤ (mI v0 (169 * q + y) 9).toInt ∧ (mI v0 (169 * q + y) 9).toInt + (mI v0 (169 * q + r) 7).toInt ≤ (cI v0 12).toInt
/-- the KIND of the number c of a routine -/
noncomputable def fkG (o z k : Nat → Int32) (K c : Nat) : Int32 := @dite _ (∃ j, j < K ∧ (o j).toInt ≤ (c : Int) ∧ (c : Int) < (o j).toInt + (z j).toInt) (Classical.propDecidable _) (fun h => k (Classical.choose h)) (fun _ => 4)
noncomputable def fkq (v : CSt) (q r K : Nat) (c : Nat) : Int32 := fkG (fun j => mI v (169 * q + (r + 1 + j)) 9) (fun j => mI v (169 * q + (r + 1 + j)) 7) (fun j => mI v (169 * q + (r + 1 + j)) 5) K c
section N4a
variable {v0 v : CSt} {u0 u : RSt} {i n q s T G r K F P N c j : Nat} {Z : EZ}
theorem OFF_mo {f : Nat → Int} (h : ∀ j, j < K → f (j + 1) = f j + (mI v (169 * q + (r + 1 + j)) 7).toInt ∧ 1 ≤ (mI v (169 * q + (r + 1 + j)) 7).toInt) : ∀ d a, a + d ≤ K → f a + (d : Int) ≤ f (a + d) := by
  intro d
  induction d with
  | zero => intro a _; show f a + 0 ≤ f a; omega
  | succ d ih =>
    intro a ha
    have h1 := ih a (by omega)
    obtain ⟨h2, h3⟩ := h (a + d) (by omega)
    show f a + ((d + 1 : Nat) : Int) ≤ f (a + d + 1)
    omega
/-- all that OFF tells -/
theorem OFF_all (h : OFF v q r K) : (∀ j, j < K → 0 ≤ (mI v (169 * q + (r + 1 + j)) 9).toInt ∧ 1 ≤ (mI v (169 * q + (r + 1 + j)) 7).toInt ∧ (mI v (169 * q + (r + 1 + j)) 9).toInt + (mI v (169 * q + (r + 1 + j)) 7).toInt ≤ (mI v (169 * q + r) 7).toInt) ∧ (∀ j j', j < K → j' < K → j < j' → (mI v (169 * q + (r + 1 + j)) 9).toInt + (mI v (169 * q + (r + 1 + j)) 7).toInt ≤ (mI v (169 * q + (r + 1 + j')) 9).toInt) ∧ (mI v (169 * q + r) 7).toInt ≤ 100 ∧ 0 ≤ (mI v (169 * q + r) 7).toInt ∧ (∀ c : Nat, (c : Int) < (mI v (169 * q + r) 7).toInt → ∃ j, j < K ∧ (mI v (169 * q + (r + 1 + j)) 9).toInt ≤ (c : Int) ∧ (c : Int) < (mI v (169 * q + (r + 1 + j)) 9).toInt + (mI v (169 * q + (r + 1 + j)) 7).toInt) ∧ (∀ j, j < K → (∀ i, i < j → (mI v (169 * q + (r + 1 + i)) 7).toInt = 1) → (mI v (169 * q + (r + 1 + j)) 9).toInt = (j : Int)) ∧ (∀ P, P ≤ K → (∀ i, i < P → (mI v (169 * q + (r + 1 + i)) 7).toInt = 1) → ∀ j, P ≤ j → j < K → (P : Int) ≤ (mI v (169 * q + (r + 1 + j)) 9).toInt) := by
  obtain ⟨f, f0, fK, f1, f2⟩ := h
  have mo := OFF_mo (v := v) (q := q) (r := r) (K := K) (f := f) (fun j hj => ⟨(f2 j hj).2.1, (f2 j hj).2.2.1⟩)
  have nn : ∀ j, j ≤ K → 0 ≤ f j := fun j hj => by
    have := mo j 0 (by omega)
    rw [f0, Nat.zero_add] at this
    omega
  have ones : ∀ P, P ≤ K → (∀ i, i < P → (mI v (169 * q + (r + 1 + i)) 7).toInt = 1) → f P = (P : Int) := by
    intro P
    induction P with
    | zero => intro _ _; exact f0
    | succ P ih =>
      intro hP h1
      have e1 := ih (by omega) (fun i hi => h1 i (by omega))
      have e2 := (f2 P (by omega)).2.1
      have e3 := h1 P (by omega)
      omega
  refine ⟨fun j hj => ?_, fun j j' hj hj' hlt => ?_, by omega, ?_, fun c hc => ?_, fun j hj h1 => ?_, fun P hP h1 j hPj hj => ?_⟩
  · obtain ⟨a1, a2, a3, a4⟩ := f2 j hj
    have b1 := nn j (by omega)
    have b2 := mo (K - (j + 1)) (j + 1) (by omega)
    have e : j + 1 + (K - (j + 1)) = K := by omega
    rw [e] at b2
    exact ⟨by omega, a3, by omega⟩
  · obtain ⟨a1, a2, a3, a4⟩ := f2 j hj
    obtain ⟨c1, -⟩ := f2 j' hj'
    have b2 := mo (j' - (j + 1)) (j + 1) (by omega)
    have e : j + 1 + (j' - (j + 1)) = j' := by omega
    rw [e] at b2
    omega
  · have := nn K (Nat.le_refl _)
    omega
  · rw [← fK] at hc
    have key : ∀ m, m ≤ K → (c : Int) < f m → ∃ j, j < m ∧ f j ≤ (c : Int) ∧ (c : Int) < f (j + 1) := by
      intro m
      induction m with
      | zero => intro _ h0; rw [f0] at h0; omega
      | succ m ih =>
        intro hm h1
        by_cases y : (c : Int) < f m
        · obtain ⟨j, j1, j2, j3⟩ := ih (by omega) y
          exact ⟨j, by omega, j2, j3⟩
        · exact ⟨m, by omega, by omega, h1⟩
    obtain ⟨j, j1, j2, j3⟩ := key K (Nat.le_refl _) hc
    obtain ⟨a1, a2, a3, a4⟩ := f2 j j1
    exact ⟨j, j1, by omega, by omega⟩
  · have := ones j (by omega) h1
    have := (f2 j hj).1
    omega
  · have e1 := ones P hP h1
    have e2 := (f2 j hj).1
    have b2 := mo (j - P) P (by omega)
    have e : P + (j - P) = j := by omega
    rw [e] at b2
    omega
theorem fkq_at (h : OFF v q r K) (hj : j < K) (h1 : (mI v (169 * q + (r + 1 + j)) 9).toInt ≤ (c : Int)) (h2 : (c : Int) < (mI v (169 * q + (r + 1 + j)) 9).toInt + (mI v (169 * q + (r + 1 + j)) 7).toInt) : fkq v q r K c = mI v (169 * q + (r + 1 + j)) 5 := by
  obtain ⟨-, a2, -⟩ := OFF_all h
  unfold fkq fkG
  have hex : ∃ j, j < K ∧ (mI v (169 * q + (r + 1 + j)) 9).toInt ≤ (c : Int) ∧ (c : Int) < (mI v (169 * q + (r + 1 + j)) 9).toInt + (mI v (169 * q + (r + 1 + j)) 7).toInt := ⟨j, hj, h1, h2⟩
  rw [dif_pos hex]
  have hs := Classical.choose_spec hex
  generalize Classical.choose hex = j' at hs ⊢
  obtain ⟨b1, b2, b3⟩ := hs
  rcases Nat.lt_trichotomy j j' with y | y | y
  · have := a2 j j' hj b1 y
    omega
  · rw [y]
  · have := a2 j' j b1 hj y
    omega
theorem PA3_of {ci : Nat} (hX : ∀ j, j < P → IFX Z v0 u0 ci (169 * q + (r + 1 + j)) (160 * s + (F + j))) (h : RRr v0 u0 q s T r K F P) (h8 : mI v0 (169 * q + 168) 2 = 8) (hT : (pI v0 q 12).toInt = (T : Int)) (hT2 : T ≤ 160) (hx : (mI v0 (169 * q + r) 3).toInt = r) (hq : cR v0 3 = q) (hs : (u0.1 56).toInt = (s : Int)) (hs2 : s < 2) {p : Nat} (hp : p = bk v0 (169 * q + r) s) : PA3 Z v0 u0 (169 * q + r) p ci := by
  obtain ⟨a1, a2, a3, a4, a5, a6, a7, a8, a9, a10, a11, a12, a13, a14, a15, a16, a17⟩ := h
  subst hp
  have e1 : (1 : Int32).toInt = 1 := by decide
  have e0 : (0 : Int32).toInt = 0 := by decide
  refine ⟨a10.symm, by omega, by omega, fun k hk => ?_⟩
  have ki : (Int32.ofNat k).toInt = k := ofN_i (by omega)
  by_cases hkK : k < K
  · obtain ⟨b1, b2⟩ := a16 k hkK
    refine ⟨169 * q + (r + 1 + k), fun N v i l e h => ?_, ?_, fun hkp => ?_⟩
    · rw [hq]
      unfold F_X6_local B_X6_local_0
      refine pq_if (fun c => ?_) (fun _ => ?_)
      · have := Int32.lt_iff_toInt_lt.mp c
        omega
      · rw [h.nm, h.nm]
        refine pq_if (fun c => ?_) (fun _ => ?_)
        · have := Int32.le_iff_toInt_le.mp c
          omega
        · have ei : (mI v0 (169 * q + r) 3 + 1 + Int32.ofNat k).toInt = (r + 1 + k : Nat) := by
            have : (mI v0 (169 * q + r) 3 + 1).toInt = (r + 1 : Nat) := by rw [tI_add (by omega) (by omega), e1, hx]; omega
            rw [tI_add (by omega) (by omega), this, ki]
            omega
          refine pq_bc (pq_m (k2_name ei (by rw [h.pi q (by decide)]; exact hT) (by omega)) (fun x w hw => ?_))
          rw [hw.1, hw.2]
          exact pq_ok (fun _ => pq_some ⟨rfl, rfl⟩)
    · rw [b1, a11]
      by_cases y : k < P
      · rw [if_pos y]
        exact ⟨fun _ => by omega, fun _ => rfl⟩
      · rw [if_neg y]
        exact ⟨fun q => absurd q (by decide), fun q => by omega⟩
    · refine ⟨b2.2.2.2.2.2.2.1, ?_⟩
      obtain ⟨o1, sn, x1, x2, x3, x4, x5, x6, x7⟩ := hX k (by omega)
      have : (160 * u0.1 56 + u0.2.2.1 28 (bk v0 (169 * q + r) s) + Int32.ofNat k).toNatClampNeg = 160 * s + (F + k) := by
        have := (m24 hs hs2 a6 (by omega)).2.1
        refine n_of ?_
        rw [tI_add (by omega) (by omega), this, ki]
        omega
      rw [this]
      exact ⟨b2.1.symm, o1, x1, x3, by omega, fun vF uF g gk n hz => by have := x7 vF uF g gk n hz 0 (by omega); rw [Nat.add_zero] at this; exact this⟩
  · refine ⟨169 * q + 168, fun N v i l e h => ?_, ?_, fun hkp => by omega⟩
    · rw [hq]
      unfold F_X6_local B_X6_local_0
      refine pq_if (fun c => ?_) (fun _ => ?_)
      · have := Int32.lt_iff_toInt_lt.mp c
        omega
      · rw [h.nm]
        refine pq_if (fun _ => pq_some ⟨rfl, rfl⟩) (fun c => ?_)
        exact absurd (Int32.le_iff_toInt_le.mpr (by omega)) c
    · rw [h8]
      exact ⟨fun q => absurd q (by decide), fun q => by omega⟩
theorem FI3_of {b : Int32} {ci : Nat} (hX : ∀ j, j < K → IFX Z v0 u0 ci (169 * q + (r + 1 + j)) (160 * s + (F + j))) (h : RRr v0 u0 q s T r K F P) (h8 : mI v0 (169 * q + 168) 2 = 8) (hT : (pI v0 q 12).toInt = (T : Int)) (hT2 : T ≤ 160) (hx : (mI v0 (169 * q + r) 3).toInt = r) (hq : cR v0 3 = q) (hs : (u0.1 56).toInt = (s : Int)) (hs2 : s < 2) (hj : ¬ u0.1 69 = 0) (hb : b.toInt = (bk v0 (169 * q + r) s : Nat)) (hn : ∀ i, i < n → tyF v0 i = 128 → NmR (cB v0 205 i) (cA v0 206 i) (u0.2.2.2 6 i) (u0.2.2.2 7 i)) : FI3 Z v0 u0 n (169 * q + r) ci b := by
  intro i hi ht
  have hnm := hn i hi ht
  have h0 := h
  obtain ⟨a1, a2, a3, a4, a5, a6, a7, a8, a9, a10, a11, a12, a13, a14, a15, a16, a17⟩ := h0
  have nm : ∀ j, j < K → ((mL v0 (169 * q + (r + 1 + j)) 0 = cB v0 205 i ∧ mI v0 (169 * q + (r + 1 + j)) 1 = cA v0 206 i) ↔ (u0.2.2.2 25 (160 * s + (F + j)) = u0.2.2.2 6 i ∧ u0.2.2.2 26 (160 * s + (F + j)) = u0.2.2.2 7 i)) := fun j hjK => NmR_eq (a16 j hjK).2.2.2.2.2.2.1 hnm
  have cls : ∀ N v l e, CE v0 v i l e → pq (F_X6_localCalled N (cR v0 3) (169 * q + r) (cB v0 205 i) (cA v0 206 i) v) (fun x w => w = v ∧ ((∃ y, y < K ∧ x = 169 * q + (r + 1 + y) ∧ mL v0 (169 * q + (r + 1 + y)) 0 = cB v0 205 i ∧ mI v0 (169 * q + (r + 1 + y)) 1 = cA v0 206 i) ∨ ((∀ y, y < K → ¬ (mL v0 (169 * q + (r + 1 + y)) 0 = cB v0 205 i ∧ mI v0 (169 * q + (r + 1 + y)) 1 = cA v0 206 i)) ∧ x = 169 * q + 168))) := by
    intro N v l e hc
    rw [hq]
    refine pq_m (k2_called (b := r + 1) (K := K) (T := T) (by rw [hc.nm, hx]; omega) (by rw [hc.nm]; exact a4) (by rw [hc.pi q (by decide)]; exact hT) hT2 (Or.inl (by omega)) (by omega)) (fun x w hw => ⟨hw.1, ?_⟩)
    rcases hw.2 with ⟨y, w1, w2, w3, w4⟩ | ⟨w1, w2⟩
    · rw [hc.nl] at w3
      rw [hc.nm] at w4
      exact Or.inl ⟨y, w1, w2, w3, w4⟩
    · refine Or.inr ⟨fun y hy z => w1 y hy ?_, w2⟩
      rw [hc.nl, hc.nm]
      exact z
  by_cases hex : ∃ j, j < K ∧ mL v0 (169 * q + (r + 1 + j)) 0 = cB v0 205 i ∧ mI v0 (169 * q + (r + 1 + j)) 1 = cA v0 206 i
  · obtain ⟨j, e1, e2, e3⟩ := hex
    have xi : (Int32.ofNat (160 * s + (F + j))).toInt = (160 * s + (F + j) : Nat) := ofN_i (by omega)
    refine ⟨169 * q + (r + 1 + j), Int32.ofNat (160 * s + (F + j)), fun N v l e hc => ?_, fun N ro l1 l2 u o l c Q hr kk => ?_, Or.inr ⟨?_, ?_, ?_, ?_⟩⟩
    · refine pq_m (cls N v l e hc) (fun x w hw => ⟨?_, hw.1⟩)
      rcases hw.2 with ⟨y, w1, w2, w3, w4⟩ | ⟨w1, -⟩
      · have := a17 y j w1 e1 (w3.trans e2.symm) (w4.trans e3.symm)
        rw [w2, this]
      · exact absurd ⟨e2, e3⟩ (w1 j e1)
    · refine y_inner h hs hs2 hj hb (Or.inr ⟨j, e1, xi, (nm j e1).mp ⟨e2, e3⟩, fun j' hj' hm => ?_⟩) hr kk
      have := (nm j' hj').mpr hm
      exact a17 j' j hj' e1 (this.1.trans e2.symm) (this.2.trans e3.symm)
    · intro z
      rw [z] at xi
      have : (-1 : Int32).toInt = -1 := by decide
      omega
    · rw [(a16 j e1).1]
      split <;> decide
    · rw [n_of xi]
      obtain ⟨b1, b2, b3, b4, b5, b6, b7, b8⟩ := (a16 j e1).2
      exact ⟨b1.symm, b3.symm, b7, b8⟩
    · rw [n_of xi]
      exact hX j e1
  · refine ⟨169 * q + 168, -1, fun N v l e hc => ?_, fun N ro l1 l2 u o l c Q hr kk => ?_, Or.inl ⟨rfl, h8⟩⟩
    · refine pq_m (cls N v l e hc) (fun x w hw => ⟨?_, hw.1⟩)
      rcases hw.2 with ⟨y, w1, w2, w3, w4⟩ | ⟨-, w2⟩
      · exact absurd ⟨y, w1, w3, w4⟩ hex
      · exact w2
    · refine y_inner h hs hs2 hj hb (Or.inl ⟨rfl, fun j hjK hm => hex ?_⟩) hr kk
      exact ⟨j, hjK, (nm j hjK).mpr hm⟩
theorem locw_of (h : TR v0 u0 q s T G) (hO : OWN v0 u0 q s T) : ∃ om b K F : Nat, (K = 0 ∨ ∃ r P, b = r + 1 ∧ r < T ∧ RRr v0 u0 q s T r K F P ∧ r + 1 + K = T ∧ ¬ u0.1 70 ≤ 1 ∧ (mI v0 (169 * q + r) 2 = 4 ↔ u0.1 70 = 3) ∧ (mI v0 (169 * q + r) 2 = 3 ∨ mI v0 (169 * q + r) 2 = 4) ∧ (pI v0 q 15).toInt = (r : Int)) ∧ (∀ N v i l e, CE v0 v i l e → pq (F_X6_name N q (pI v0 q 15) v) (fun x w => x = om ∧ w = v)) ∧ (mI v0 om 3).toInt + 1 = (b : Int) ∧ (mI v0 om 12).toInt = (K : Int) ∧ (b + K ≤ T ∨ K = 0) ∧ b ≤ 400 ∧ F + K ≤ 160 ∧ (∀ j, j < K → (mI v0 (169 * q + (b + j)) 2 = 5 ∨ mI v0 (169 * q + (b + j)) 2 = 6) ∧ SL v0 u0 (169 * q + (b + j)) (160 * s + (F + j)) ∧ rN v0 u0 (169 * q + (b + j)) 25 26 (160 * s + (F + j))) ∧ (∀ j j', j < K → j' < K → mL v0 (169 * q + (b + j)) 0 = mL v0 (169 * q + (b + j')) 0 → mI v0 (169 * q + (b + j)) 1 = mI v0 (169 * q + (b + j')) 1 → j = j') ∧ (∀ N u i o l c A B, RE u0 u i o l c → pp (F_slotOf N A B u) (fun r w => w = u ∧ ((r = -1 ∧ ∀ j, j < K → ¬ (u0.2.2.2 25 (160 * s + (F + j)) = A ∧ u0.2.2.2 26 (160 * s + (F + j)) = B)) ∨ (∃ j, j < K ∧ r.toInt = (160 * s + (F + j) : Nat) ∧ u0.2.2.2 25 (160 * s + (F + j)) = A ∧ u0.2.2.2 26 (160 * s + (F + j)) = B)))) := by
  obtain ⟨t1, t2, t3, t4, t5, t5', t6, t7, t8, t9, t10, t11, t12, t13, t14, t15, t16, t17⟩ := h
  rcases hO with ⟨o1, o2⟩ | ⟨r, K, F, P, o1, o2, o3, o4, o5, o6, o7, o8, o9, o10, o11⟩
  · refine ⟨169 * q + 168, ((mI v0 (169 * q + 168) 3).toInt + 1).toNat, 0, 0, Or.inl rfl, fun N v i l e _ => k2_noname o1, ?_, ?_, Or.inr rfl, ?_, by omega, fun j hj => absurd hj (Nat.not_lt_zero _), fun j j' hj => absurd hj (Nat.not_lt_zero _), fun N u i o l c A B hr => ?_⟩
    · have := t14.2.2.1
      omega
    · rw [t14.2.1]; rfl
    · have := t14.2.2.2.1
      omega
    · refine pp_m (y_slots0 (by rw [hr.sc (by decide)]; exact o2)) (fun r w hw => ⟨hw.1, Or.inl ⟨hw.2, fun j hj => absurd hj (Nat.not_lt_zero _)⟩⟩)
  · have o4' := o4
    obtain ⟨a1, a2, a3, a4, a5, a6, a7, a8, a9, a10, a11, a12, a13, a14, a15, a16, a17⟩ := o4'
    refine ⟨169 * q + r, r + 1, K, F, Or.inr ⟨r, P, rfl, o1, o4, o5, o8, o9, o3, o2⟩, fun N v i l e hc => ?_, ?_, a4, Or.inl (by omega), by omega, by omega, fun j hj => ?_, a17, fun N u i o l c A B hr => ?_⟩
    · exact k2_name o2 (by rw [hc.pi q (by decide)]; exact t1) o1
    · rw [(t11 r o1).1]; omega
    · obtain ⟨b1, b2⟩ := a16 j hj
      obtain ⟨c1, c2, c3, c4, c5, c6, c7, c8⟩ := b2
      refine ⟨?_, ⟨c1.symm, c3.symm, c7, c8⟩, c6⟩
      rw [b1]
      split
      · exact Or.inl rfl
      · exact Or.inr rfl
    · have hu25 : u.2.2.2 25 = u0.2.2.2 25 := hr.lrow (by decide)
      have hu26 : u.2.2.2 26 = u0.2.2.2 26 := hr.lrow (by decide)
      refine pp_m (y_slots (T := F + K) (s := s) (F := F) (by rw [hr.sc (by decide)]; exact t6) t7 (by rw [hr.sc (by decide)]; exact o6) (by rw [hr.row (by decide)]; exact o7) (by omega) (by omega)) (fun x w hw => ⟨hw.1, ?_⟩)
      rw [hu25, hu26, hr.sc (k := 70) (by decide)] at hw
      rcases hw.2 with ⟨w1, w2⟩ | ⟨y, w1, w2, w3, w4, w5, w6⟩
      · refine Or.inl ⟨w1, fun j hj hm => ?_⟩
        rcases w2 with w2 | w2
        · exact o8 w2
        · exact w2 (F + j) (by omega) (by omega) hm
      · have ey : F + (y - F) = y := by omega
        refine Or.inr ⟨y - F, by omega, ?_, ?_, ?_⟩
        · rw [ey]; exact w4
        · rw [ey]; exact w5
        · rw [ey]; exact w6
theorem EVw_of (hk : TKs v0 u0 n) (hj : ¬ u0.1 69 = 0) (h : TR v0 u0 q s T G) (hO : OWN v0 u0 q s T) : ∃ b K F : Nat, (K = 0 ∨ ∃ r P, b = r + 1 ∧ r < T ∧ RRr v0 u0 q s T r K F P ∧ r + 1 + K = T ∧ ¬ u0.1 70 ≤ 1 ∧ (mI v0 (169 * q + r) 2 = 4 ↔ u0.1 70 = 3) ∧ (mI v0 (169 * q + r) 2 = 3 ∨ mI v0 (169 * q + r) 2 = 4) ∧ (pI v0 q 15).toInt = (r : Int)) ∧ ∀ i, i < n → tyF v0 i = 128 → ∃ m sl g, m < 338 ∧ KN1 v0 u0 i m sl g ∧ MN v0 u0 n m sl g ∧ WHO v0 q s T b K F m sl g := by
  obtain ⟨om, b, K, F, d0, d1, d2, d3, d4, d5, d6, d7, d8, d9⟩ := locw_of h hO
  obtain ⟨t1, t2, t3, t4, t5, t5', t6, t7, t8, t9, t10, t11, t12, t13, t14, t15, t16, t17⟩ := h
  have hnm : ∀ i, i < n → tyF v0 i = 128 → NmR (cB v0 205 i) (cA v0 206 i) (u0.2.2.2 6 i) (u0.2.2.2 7 i) := fun i hi ht => (hk i hi).2.2.2.2 ht
  refine ⟨b, K, F, d0, fun i hi ht => ?_⟩
  have hn := hnm i hi ht
  have m1 : (-1 : Int32).toInt = -1 := by decide
  have e5i : (5 : Int32).toInt = 5 := by decide
  have e4i : (4 : Int32).toInt = 4 := by decide
  obtain ⟨g1, g2, g3, g4⟩ := t13
  obtain ⟨f1, f2, f3, f4, f5, f6⟩ := t14
  have nl : ∀ j, j < K → ((mL v0 (169 * q + (b + j)) 0 = cB v0 205 i ∧ mI v0 (169 * q + (b + j)) 1 = cA v0 206 i) ↔ (u0.2.2.2 25 (160 * s + (F + j)) = u0.2.2.2 6 i ∧ u0.2.2.2 26 (160 * s + (F + j)) = u0.2.2.2 7 i)) := fun j hjK => NmR_eq (d7 j hjK).2.2 hn
  have ng : ∀ {m y : Nat}, rN v0 u0 m 57 58 y → ((mL v0 m 0 = cB v0 205 i ∧ mI v0 m 1 = cA v0 206 i) ↔ (u0.2.2.2 57 y = u0.2.2.2 6 i ∧ u0.2.2.2 58 y = u0.2.2.2 7 i)) := fun hr => NmR_eq hr hn
  have n8 : ∀ {k : Nat}, k < 8 → ((mL v0 (169 * q + (160 + k)) 0 = cB v0 205 i ∧ 0 = cA v0 206 i) ↔ (u0.2.2.2 57 k = u0.2.2.2 6 i ∧ u0.2.2.2 58 k = u0.2.2.2 7 i)) := fun hk8 => NmR_eq (f5 _ hk8).2.1 hn
  have cls : ∀ N v l e, CE v0 v i l e → pq (F_X8_known N v) (fun x w => w = v ∧ ((∃ y, y < K ∧ x = 169 * q + (b + y) ∧ mL v0 (169 * q + (b + y)) 0 = cB v0 205 i ∧ mI v0 (169 * q + (b + y)) 1 = cA v0 206 i) ∨ ((∀ y, y < K → ¬ (mL v0 (169 * q + (b + y)) 0 = cB v0 205 i ∧ mI v0 (169 * q + (b + y)) 1 = cA v0 206 i)) ∧ ((∃ y, y < T ∧ x = 169 * q + y ∧ gl v0 (169 * q + y) ∧ mL v0 (169 * q + y) 0 = cB v0 205 i ∧ mI v0 (169 * q + y) 1 = cA v0 206 i) ∨ ((∀ y, y < T → gl v0 (169 * q + y) → ¬ (mL v0 (169 * q + y) 0 = cB v0 205 i ∧ mI v0 (169 * q + y) 1 = cA v0 206 i)) ∧ ((∃ k, k < 8 ∧ cA v0 206 i = 0 ∧ mL v0 (169 * q + (160 + k)) 0 = cB v0 205 i ∧ x = 169 * q + (160 + k)) ∨ ((¬ cA v0 206 i = 0 ∨ ∀ k, k < 8 → ¬ mL v0 (169 * q + (160 + k)) 0 = cB v0 205 i) ∧ x = 169 * q + 168))))))) := by
    intro N v l e hc
    have glv : ∀ m, gl v m ↔ gl v0 m := fun m => by unfold gl; rw [hc.nm]
    unfold F_X8_known B_X8_known_0
    refine k2_head hc (k2_tail hc (pq_ok (fun _ => ?_)))
    rw [hc.rf, t10, hc.pi q (by decide)]
    refine pq_bc (pq_m (d1 N v i l e hc) (fun x1 w1 hw1 => ?_))
    rw [hw1.1, hw1.2]
    refine pq_ok (fun _ => pq_bc (pq_m (k2_called (b := b) (K := K) (T := T) (by rw [hc.nm]; exact d2) (by rw [hc.nm]; exact d3) (by rw [hc.pi q (by decide)]; exact t1) t2 d4 d5) (fun x2 w2 hw2 => ?_)))
    rw [hw2.1]
    refine pq_ok (fun _ => ?_)
    rw [hc.nm]
    rcases hw2.2 with ⟨y, y1, y2, y3, y4⟩ | ⟨y1, y2⟩
    · rw [hc.nl] at y3
      rw [hc.nm] at y4
      rw [y2, if_neg (by rcases (d7 y y1).1 with z | z <;> (rw [z]; decide))]
      exact pq_some ⟨rfl, Or.inl ⟨y, y1, rfl, y3, y4⟩⟩
    · have hno : ∀ y, y < K → ¬ (mL v0 (169 * q + (b + y)) 0 = cB v0 205 i ∧ mI v0 (169 * q + (b + y)) 1 = cA v0 206 i) := fun y hy hm => y1 y hy (by rw [hc.nl, hc.nm]; exact hm)
      rw [y2, if_pos f1]
      refine pq_ok (fun _ => ?_)
      rw [hc.rf, t10]
      refine pq_bc (pq_m (k2_ofText (T := T) (by rw [hc.pi q (by decide)]; exact t1) t2) (fun x3 w3 hw3 => ?_))
      rw [hw3.1]
      refine pq_ok (fun _ => pq_some ⟨rfl, Or.inr ⟨hno, ?_⟩⟩)
      rcases hw3.2 with ⟨y, z1, z2, z3, z4, z5⟩ | ⟨z1, z2⟩
      · rw [hc.nl] at z4
        rw [hc.nm] at z5
        exact Or.inl ⟨y, z1, z2, (glv _).mp z3, z4, z5⟩
      · refine Or.inr ⟨fun y hy hg hm => z1 y hy ((glv _).mpr hg) (by rw [hc.nl, hc.nm]; exact hm), ?_⟩
        rcases z2 with ⟨k, k1, k2, k3, k4⟩ | ⟨k1, k2⟩
        · rw [hc.nl] at k3
          exact Or.inl ⟨k, k1, k2, k3, k4⟩
        · refine Or.inr ⟨?_, k2⟩
          rcases k1 with k1 | k1
          · exact Or.inl k1
          · exact Or.inr (fun k hk8 hm => k1 k hk8 (by rw [hc.nl]; exact hm))
  have own : ∀ N u o l c a, RE u0 u i o l c → pp (F_own N a u) (fun r w => w = u ∧ (((∃ j, j < K ∧ u0.2.2.2 25 (160 * s + (F + j)) = u0.2.2.2 6 i ∧ u0.2.2.2 26 (160 * s + (F + j)) = u0.2.2.2 7 i) ∧ r = -1) ∨ ((∀ j, j < K → ¬ (u0.2.2.2 25 (160 * s + (F + j)) = u0.2.2.2 6 i ∧ u0.2.2.2 26 (160 * s + (F + j)) = u0.2.2.2 7 i)) ∧ (((∀ y, y < G → ¬ (u0.2.2.2 57 y = u0.2.2.2 6 i ∧ u0.2.2.2 58 y = u0.2.2.2 7 i)) ∧ r = -1) ∨ (∃ y, y < G ∧ u0.2.2.2 57 y = u0.2.2.2 6 i ∧ u0.2.2.2 58 y = u0.2.2.2 7 i ∧ r = if u0.2.2.1 59 y = a then u0.2.2.1 60 y else -1))))) := by
    intro N u o l c a hr
    unfold F_own B_own_0
    rw [if_neg (by rw [hr.sc (by decide)]; exact hj)]
    refine y_rB hr (by decide) (y_rB hr (by decide) (pp_bn (pp_m (d9 N u i o l c _ _ hr) (fun r1 w1 hw1 => ?_))))
    rw [hw1.1]
    rcases hw1.2 with ⟨z1, z2⟩ | ⟨j, z1, z2, z3, z4⟩
    · rw [if_pos z1]
      have hu57 : u.2.2.2 57 = u0.2.2.2 57 := hr.lrow (by decide)
      have hu58 : u.2.2.2 58 = u0.2.2.2 58 := hr.lrow (by decide)
      refine y_rB hr (by decide) (y_rB hr (by decide) (pp_bn (pp_m (y_named (G := G) (by rw [hr.sc (by decide)]; exact t4) (by omega)) (fun r2 w2 hw2 => ?_))))
      rw [hu57, hu58] at hw2
      rw [hw2.1]
      rcases hw2.2 with ⟨x1, x2⟩ | ⟨y, x1, x2, x3, x4⟩
      · rw [if_pos x1]
        exact pp_some ⟨rfl, Or.inr ⟨z2, Or.inl ⟨x2, rfl⟩⟩⟩
      · rw [if_neg (fun e => by rw [e, m1] at x2; omega)]
        refine pp_rd ?_
        rw [hr.row (by decide), n_of x2]
        refine pp_if (fun e => pp_rd ?_) (fun e => pp_some ⟨rfl, Or.inr ⟨z2, Or.inr ⟨y, x1, x3, x4, by rw [if_neg e]⟩⟩⟩)
        rw [hr.row (by decide), n_of x2]
        exact pp_some ⟨rfl, Or.inr ⟨z2, Or.inr ⟨y, x1, x3, x4, by rw [if_pos e]⟩⟩⟩
    · rw [if_neg (fun e => by rw [e, m1] at z2; omega)]
      exact pp_some ⟨rfl, Or.inl ⟨⟨j, z1, z3, z4⟩, rfl⟩⟩
  by_cases hL : ∃ j, j < K ∧ mL v0 (169 * q + (b + j)) 0 = cB v0 205 i ∧ mI v0 (169 * q + (b + j)) 1 = cA v0 206 i
  · obtain ⟨j, e1, e2, e3⟩ := hL
    have hu : ∀ y, y < K → mL v0 (169 * q + (b + y)) 0 = cB v0 205 i → mI v0 (169 * q + (b + y)) 1 = cA v0 206 i → y = j := fun y hy h1 h2 => d8 y j hy e1 (h1.trans e2.symm) (h2.trans e3.symm)
    have xi : (Int32.ofNat (160 * s + (F + j))).toInt = (160 * s + (F + j) : Nat) := ofN_i (by omega)
    have hbK : b + j < 160 := by omega
    refine ⟨169 * q + (b + j), Int32.ofNat (160 * s + (F + j)), fun _ => -1, by omega, ⟨fun N v l e hc => ?_, fun N u o l c hr => ?_, fun N u o l c a hr => ?_⟩, Or.inl ⟨?_, fun _ => rfl, (d7 j e1).1, ?_⟩, Or.inl ⟨j, e1, rfl, xi⟩⟩
    · refine pq_m (cls N v l e hc) (fun x w hw => ⟨?_, hw.1⟩)
      rcases hw.2 with ⟨y, y1, y2, y3, y4⟩ | ⟨y1, -⟩
      · rw [y2, hu y y1 y3 y4]
      · exact absurd ⟨e2, e3⟩ (y1 j e1)
    · refine pp_m (d9 N u i o l c _ _ hr) (fun r w hw => ⟨?_, hw.1⟩)
      rcases hw.2 with ⟨-, y2⟩ | ⟨y, y1, y2, y3, y4⟩
      · exact absurd ((nl j e1).mp ⟨e2, e3⟩) (y2 j e1)
      · have := (nl y y1).mpr ⟨y3, y4⟩
        have ey := hu y y1 this.1 this.2
        subst ey
        exact tI_eq.mpr (y2.trans xi.symm)
    · refine pp_m (own N u o l c a hr) (fun r w hw => ⟨?_, hw.1⟩)
      rcases hw.2 with ⟨-, y2⟩ | ⟨y1, -⟩
      · exact y2
      · exact absurd ((nl j e1).mp ⟨e2, e3⟩) (y1 j e1)
    · intro z
      rw [z, m1] at xi
      omega
    · rw [n_of xi]
      exact (d7 j e1).2.1
  · have hL' : ∀ j, j < K → ¬ (u0.2.2.2 25 (160 * s + (F + j)) = u0.2.2.2 6 i ∧ u0.2.2.2 26 (160 * s + (F + j)) = u0.2.2.2 7 i) := fun j hjK hm => hL ⟨j, hjK, (nl j hjK).mpr hm⟩
    have sl : ∀ N u o l c, RE u0 u i o l c → pp (F_slotOf N (u0.2.2.2 6 i) (u0.2.2.2 7 i) u) (fun r w => r = -1 ∧ w = u) := by
      intro N u o l c hr
      refine pp_m (d9 N u i o l c _ _ hr) (fun r w hw => ⟨?_, hw.1⟩)
      rcases hw.2 with ⟨y1, -⟩ | ⟨y, y1, y2, y3, y4⟩
      · exact y1
      · exact absurd ⟨y3, y4⟩ (hL' y y1)
    by_cases hG : ∃ x, x < T ∧ gl v0 (169 * q + x) ∧ mL v0 (169 * q + x) 0 = cB v0 205 i ∧ mI v0 (169 * q + x) 1 = cA v0 206 i
    · obtain ⟨x, e1, e2, e3, e4⟩ := hG
      obtain ⟨y, y1, y2, y3, y4, y5⟩ := g1 x e1 e2
      have hu : ∀ x', x' < T → gl v0 (169 * q + x') → mL v0 (169 * q + x') 0 = cB v0 205 i → mI v0 (169 * q + x') 1 = cA v0 206 i → x' = x := fun x' h1 h2 h3 h4 => g3 x' x h1 e1 h2 e2 (h3.trans e3.symm) (h4.trans e4.symm)
      have hy := (ng y3).mp ⟨e3, e4⟩
      have huy : ∀ y', y' < G → (u0.2.2.2 57 y' = u0.2.2.2 6 i ∧ u0.2.2.2 58 y' = u0.2.2.2 7 i) → u0.2.2.1 59 y' = mI v0 (169 * q + x) 2 ∧ u0.2.2.1 60 y' = mI v0 (169 * q + x) 4 := by
        intro y' hy' hm
        rcases Nat.lt_or_ge y' 8 with z | z
        · have := (n8 z).mpr hm
          exact absurd ⟨e4.trans this.2.symm, e3.trans this.1.symm⟩ (g4 x e1 e2 y' z)
        · obtain ⟨x', x1, x2, x3, x4, x5⟩ := g2 y' z hy'
          have h2 := (ng x3).mpr hm
          have ex := hu x' x1 x2 h2.1 h2.2
          subst ex
          exact ⟨x4, x5⟩
      have num := t12 x e1 e2
      have nn : ¬ mI v0 (169 * q + x) 4 = -1 := fun z => by rw [z, m1] at num; omega
      obtain ⟨x1, x2, x3⟩ := t11 x e1
      have KN : KN1 v0 u0 i (169 * q + x) (-1) (fun a => if mI v0 (169 * q + x) 2 = a then mI v0 (169 * q + x) 4 else -1) := by
        refine ⟨fun N v l e hc => ?_, fun N u o l c hr => sl N u o l c hr, fun N u o l c a hr => ?_⟩
        · refine pq_m (cls N v l e hc) (fun z w hw => ⟨?_, hw.1⟩)
          rcases hw.2 with ⟨y, w1, w2, w3, w4⟩ | ⟨-, ⟨y, w1, w2, w3, w4, w5⟩ | ⟨w1, -⟩⟩
          · exact absurd ⟨y, w1, w3, w4⟩ hL
          · rw [w2, hu y w1 w3 w4 w5]
          · exact absurd ⟨e3, e4⟩ (w1 x e1 e2)
        · refine pp_m (own N u o l c a hr) (fun r w hw => ⟨?_, hw.1⟩)
          rcases hw.2 with ⟨⟨j, w1, w2⟩, -⟩ | ⟨-, ⟨w1, -⟩ | ⟨y', w1, w2, w3, w4⟩⟩
          · exact absurd w2 (hL' j w1)
          · exact absurd hy (w1 y y2)
          · obtain ⟨u1, u2⟩ := huy y' w1 ⟨w2, w3⟩
            rw [w4, u1, u2]
      refine ⟨169 * q + x, -1, fun a => if mI v0 (169 * q + x) 2 = a then mI v0 (169 * q + x) 4 else -1, by omega, KN, ?_, Or.inr (Or.inl ⟨x, e1, e2, rfl, rfl, rfl⟩)⟩
      have sorts : mI v0 (169 * q + x) 2 = 0 ∨ mI v0 (169 * q + x) 2 = 1 ∨ mI v0 (169 * q + x) 2 = 2 ∨ mI v0 (169 * q + x) 2 = 3 ∨ mI v0 (169 * q + x) 2 = 4 := by
        have : ¬ (4 : Int32).toInt < (mI v0 (169 * q + x) 2).toInt := fun z => e2 (Int32.lt_iff_toInt_lt.mpr z)
        rw [e4i] at this
        have a0 : (0 : Int32).toInt = 0 := by decide
        have a1 : (1 : Int32).toInt = 1 := by decide
        have a2 : (2 : Int32).toInt = 2 := by decide
        have a3 : (3 : Int32).toInt = 3 := by decide
        simp only [tI_eq, a0, a1, a2, a3, e4i]
        omega
      rcases sorts with z | z | z | z | z
      · obtain ⟨k, k1, k2, k3, k4, k5, k6, k7, k8, k9, k10, -⟩ := t15 x e1 z
        refine Or.inr (Or.inl ⟨rfl, z, ?_, fun a ha => ?_, ?_⟩)
        · dsimp only
          rw [if_pos z]; exact nn
        · dsimp only
          rw [if_neg (fun y => ha (y.symm.trans z))]
        · dsimp only
          rw [if_pos z, n_of (m24 t6 t7 k1 (by omega)).2.1]
          exact ⟨k3.symm, k6.symm, by rw [k5], k9, k10⟩
      · obtain ⟨k, r, k1, k2, k3, k4, k5, k6, k7, k8⟩ := t17 x e1 z
        obtain ⟨K', F', P', hR, -⟩ := t16 r k3 (Or.inl k5)
        have e38 : (24 * u0.1 56 + mI v0 (169 * q + x) 4).toNatClampNeg = 24 * s + k := n_of (m24 t6 t7 k1 (by omega)).1
        refine Or.inr (Or.inr (Or.inl ⟨rfl, z, ?_, fun a ha => ?_, 169 * q + r, by omega, fun N v i l e hc => ?_, ?_, ?_⟩))
        · dsimp only
          rw [if_pos z]; exact nn
        · dsimp only
          rw [if_neg (fun y => ha (y.symm.trans z))]
        · rw [t10]
          exact k2_name k4 (by rw [hc.pi q (by decide)]; exact t1) k3
        · dsimp only
          rw [if_pos z, e38]
          exact FI_of hR f1 t1 t2 (t11 r k3).1 t10 t6 t7 hj k6 hnm
        · dsimp only
          rw [if_pos z, e38, n_of k6]
          exact PA_of hR f1 t1 t2 (t11 r k3).1 t10 t6 t7 rfl
      · refine Or.inr (Or.inr (Or.inr (Or.inl ⟨rfl, z, ?_, fun a ha => ?_⟩)))
        · dsimp only
          rw [if_pos z]; exact nn
        · dsimp only
          rw [if_neg (fun y => ha (y.symm.trans z))]
      · refine Or.inr (Or.inr (Or.inr (Or.inr (Or.inl ⟨rfl, z, ?_, fun a ha => ?_⟩))))
        · dsimp only
          rw [if_pos z]; exact nn
        · dsimp only
          rw [if_neg (fun y => ha (y.symm.trans z))]
      · obtain ⟨K', F', P', hR, -⟩ := t16 x e1 (Or.inr z)
        have hR' := hR
        obtain ⟨a1, a2, a3, a4, a5, a6, a7, a8, a9, a10, a11, a12, a13, a14, a15, -⟩ := hR'
        have hk : (mI v0 (169 * q + x) 4).toInt = ((mI v0 (169 * q + x) 4).toInt.toNat : Nat) := by omega
        have eb : (24 * u0.1 56 + 8 + mI v0 (169 * q + x) 4).toNatClampNeg = bk v0 (169 * q + x) s := by
          rw [n_of (m24 t6 t7 hk (by omega)).2.2]
          unfold bk
          rw [if_neg (by rw [z]; decide)]
          rfl
        refine Or.inr (Or.inr (Or.inr (Or.inr (Or.inr (Or.inl ⟨rfl, z, ?_, fun a ha => ?_, ?_, (a15 z).1, ?_⟩)))))
        · dsimp only
          rw [if_pos z]; exact nn
        · dsimp only
          rw [if_neg (fun y => ha (y.symm.trans z))]
        · dsimp only
          rw [if_pos z, eb]
          exact PA_of hR f1 t1 t2 x1 t10 t6 t7 rfl
        · dsimp only
          rw [if_pos z, eb]
          exact (a15 z).2
    · have hG' : ∀ y, y < G → 8 ≤ y → ¬ (u0.2.2.2 57 y = u0.2.2.2 6 i ∧ u0.2.2.2 58 y = u0.2.2.2 7 i) := by
        intro y hy hy8 hm
        obtain ⟨x', x1, x2, x3, x4, x5⟩ := g2 y hy8 hy
        have h2 := (ng x3).mpr hm
        exact hG ⟨x', x1, x2, h2.1, h2.2⟩
      by_cases h8 : ∃ k, k < 8 ∧ cA v0 206 i = 0 ∧ mL v0 (169 * q + (160 + k)) 0 = cB v0 205 i
      · obtain ⟨k, k1, k2, k3⟩ := h8
        obtain ⟨p1, p2, p3, p4, p5⟩ := f5 k k1
        have hu : ∀ k', k' < 8 → mL v0 (169 * q + (160 + k')) 0 = cB v0 205 i → k' = k := fun k' h1 h2 => f6 k' k h1 k1 (h2.trans k3.symm)
        have hy := (n8 k1).mp ⟨k3, k2.symm⟩
        have ki : (Int32.ofNat k).toInt = k := ofN_i (by omega)
        refine ⟨169 * q + (160 + k), -1, fun a => if (5 : Int32) = a then Int32.ofNat k else -1, by omega, ⟨fun N v l e hc => ?_, fun N u o l c hr => sl N u o l c hr, fun N u o l c a hr => ?_⟩, Or.inr (Or.inr (Or.inr (Or.inr (Or.inr (Or.inr (Or.inl ⟨rfl, p1, ?_, fun a ha => ?_, ?_⟩)))))), Or.inr (Or.inr (Or.inl ⟨k, k1, rfl, rfl, if_pos rfl⟩))⟩
        · refine pq_m (cls N v l e hc) (fun z w hw => ⟨?_, hw.1⟩)
          rcases hw.2 with ⟨y, w1, w2, w3, w4⟩ | ⟨-, ⟨y, w1, w2, w3, w4, w5⟩ | ⟨-, ⟨k', w1, w2, w3, w4⟩ | ⟨w1, -⟩⟩⟩
          · exact absurd ⟨y, w1, w3, w4⟩ hL
          · exact absurd ⟨y, w1, w3, w4, w5⟩ hG
          · rw [w4, hu k' w1 w3]
          · rcases w1 with w1 | w1
            · exact absurd k2 w1
            · exact absurd k3 (w1 k k1)
        · refine pp_m (own N u o l c a hr) (fun r w hw => ⟨?_, hw.1⟩)
          rcases hw.2 with ⟨⟨j, w1, w2⟩, -⟩ | ⟨-, ⟨w1, -⟩ | ⟨y', w1, w2, w3, w4⟩⟩
          · exact absurd w2 (hL' j w1)
          · exact absurd hy (w1 k (by omega))
          · rcases Nat.lt_or_ge y' 8 with z | z
            · have h2 := (n8 z).mpr ⟨w2, w3⟩
              have ek := hu y' z h2.1
              subst ek
              rw [w4, p3, p4]
            · exact absurd ⟨w2, w3⟩ (hG' y' w1 z)
        · dsimp only
          rw [if_pos rfl]
          intro z
          rw [z, m1] at ki
          omega
        · dsimp only
          rw [if_neg (fun y => ha y.symm)]
        · dsimp only
          rw [if_pos rfl]
          exact p5
      · refine ⟨169 * q + 168, -1, fun _ => -1, by omega, ⟨fun N v l e hc => ?_, fun N u o l c hr => sl N u o l c hr, fun N u o l c a hr => ?_⟩, Or.inr (Or.inr (Or.inr (Or.inr (Or.inr (Or.inr (Or.inr ⟨rfl, f1, fun _ => rfl⟩)))))), Or.inr (Or.inr (Or.inr rfl))⟩
        · refine pq_m (cls N v l e hc) (fun z w hw => ⟨?_, hw.1⟩)
          rcases hw.2 with ⟨y, w1, w2, w3, w4⟩ | ⟨-, ⟨y, w1, w2, w3, w4, w5⟩ | ⟨-, ⟨k', w1, w2, w3, w4⟩ | ⟨-, w2⟩⟩⟩
          · exact absurd ⟨y, w1, w3, w4⟩ hL
          · exact absurd ⟨y, w1, w3, w4, w5⟩ hG
          · exact absurd ⟨k', w1, w2, w3⟩ h8
          · exact w2
        · refine pp_m (own N u o l c a hr) (fun r w hw => ⟨?_, hw.1⟩)
          rcases hw.2 with ⟨-, w2⟩ | ⟨-, ⟨-, w2⟩ | ⟨y', w1, w2, w3, w4⟩⟩
          · exact w2
          · exact w2
          · rcases Nat.lt_or_ge y' 8 with z | z
            · have h2 := (n8 z).mpr ⟨w2, w3⟩
              exact absurd ⟨y', z, h2.2.symm, h2.1⟩ h8
            · exact absurd ⟨w2, w3⟩ (hG' y' w1 z)
theorem NUM_le (h : NUM v u) : 0 ≤ (cI v 12).toInt ∧ (cI v 12).toInt ≤ 2000 := by
  obtain ⟨a1, a2, a3⟩ := h
  have b0 := (a1 0 (by omega)).2
  have b1 := (a1 1 (by omega)).2
  have b2 := (a1 2 (by omega)).2
  have b3 := (a1 3 (by omega)).2
  have b4 := (a1 4 (by omega)).2
  omega
theorem nat_cl {a : Int32} (h : 0 ≤ a.toInt) : a.toInt = (a.toNatClampNeg : Int) := by
  show a.toInt = (a.toInt.toNat : Int)
  omega
/-- a variable of the text as a place -/
theorem PX_G {x : Nat} {md sz : Nat} {fk : Nat → Int32} (hTR : TR v0 u0 q s T G) (hT2 : TR2 v0 u0 q s T) (hx : x < T) (h0 : mI v0 (169 * q + x) 2 = 0) : PX N (PHI N v0 q s T, md, sz, fk) v0 u0 (169 * q + x) (-1) (160 * u0.1 56 + mI v0 (169 * q + x) 4) := by
  obtain ⟨t1, t2, t3, t4, t5, t5', t6, t7, t8, t9, t10, t11, t12, t13, t14, t15, t16, t17⟩ := hTR
  obtain ⟨s1, s2, s3, s4, s5, s6, s7⟩ := hT2
  obtain ⟨k, k1, k2, k3, k4, k5, k6, k7, k8, k9, k10, k11⟩ := t15 x hx h0
  obtain ⟨p1, p2, p3⟩ := s4 x hx h0
  have n12 := NUM_le s3
  have ex : (160 * u0.1 56 + mI v0 (169 * q + x) 4).toNatClampNeg = 160 * s + k := n_of (m24 t6 t7 k1 (by omega)).2.1
  have e4 : (mI v0 (169 * q + x) 4).toNatClampNeg = k := n_of k1
  rw [e4] at p3
  have po : pop u0 (-1) = 10 := if_pos rfl
  have pq9 : poq u0 (-1) (160 * u0.1 56 + mI v0 (169 * q + x) 4) = u0.2.2.1 15 (160 * s + k) := by
    unfold poq
    rw [if_pos rfl, ex]
  have pz9 : poz u0 (-1) (160 * u0.1 56 + mI v0 (169 * q + x) 4) = mI v0 (169 * q + x) 7 := by
    unfold poz
    rw [if_pos rfl, ex]
    exact k4
  have gkx : ∀ vF uF g gk n, PHI N v0 q s T vF uF g gk n → (mI v0 (169 * q + x) 6 = 0 ∨ mI v0 (169 * q + x) 6 = 1) → ∀ j : Nat, (j : Int) < (mI v0 (169 * q + x) 7).toInt → gk ((mI v0 (169 * q + x) 9).toNatClampNeg + j) = mI v0 (169 * q + x) 5 := fun vF uF g gk n hz hh j hj => hz.2.1 x hx h0 hh j hj
  rcases p3 with ⟨a1, a2, a3, a4, a5⟩ | ⟨a1, a2, a3, a4, a5, a6, a7⟩
  · have c9 := nat_cl a4
    have n2 : ¬ mI v0 (169 * q + x) 6 = 2 := by rcases a1 with z | z <;> (rw [z]; decide)
    have n3 : ¬ mI v0 (169 * q + x) 6 = 3 := by rcases a1 with z | z <;> (rw [z]; decide)
    have e7 : (mI v0 (169 * q + x) 7).toInt = ((mI v0 (169 * q + x) 7).toInt.toNat : Int) := by omega
    rw [PX, po, pq9, pz9, a3]
    refine ⟨fun z8 => ⟨fun _ _ => mI v0 (169 * q + x) 9, fun vF uF g gk n hz => ?_, fun _ vF uF g gk n hz => ?_⟩, fun z8 => ⟨(mI v0 (169 * q + x) 9).toNatClampNeg, (mI v0 (169 * q + x) 7).toInt.toNat, c9, e7, c9, e7, fun vF uF g gk n hz => Or.inl ⟨if_pos h0, rfl, by omega, fun j hj => gkx vF uF g gk n hz a1 j (by omega)⟩⟩, fun _ => by rcases a1 with z | z; exact Or.inl z; exact Or.inr (Or.inl z), fun _ y => y.2.elim n2 n3⟩
    · have e : gopq v0 (169 * q + x) = 3 := by
        unfold gopq
        rw [if_pos h0, if_neg n2, if_neg n3]
      rw [e]
      have := gkx vF uF g gk n hz a1 0 (by omega)
      exact PLg_G c9 c9 (by omega) this
    · have e : sop v0 (169 * q + x) = 7 := by
        unfold sop
        rw [if_pos h0, if_neg (fun y => y.elim n2 n3)]
      rw [e]
      have := gkx vF uF g gk n hz a1 0 (by omega)
      exact PLs_G c9 c9 (by omega) this k9
  · have c9 := nat_cl a6
    have n8 : ¬ mI v0 (169 * q + x) 8 = 1 := by rw [a3]; decide
    have b64 := nb_64 k9
    have e6k : (6000 : Int32).toInt = 6000 := by decide
    have e5k : (5000 : Int32).toInt = 5000 := by decide
    have l64 : (mI v0 (169 * q + x) 9).toNatClampNeg + nb (mI v0 (169 * q + x) 5) ≤ 64 := by omega
    rw [PX, po, pq9]
    refine ⟨fun _ => ⟨fun _ _ => u0.2.2.1 15 (160 * s + k), fun vF uF g gk n hz => ?_, fun hn vF uF g gk n hz => ?_⟩, fun z8 => absurd z8 n8, fun _ => by rcases a1 with z | z; exact Or.inr (Or.inr (Or.inl z)); exact Or.inr (Or.inr (Or.inr z)), fun z8 => absurd z8 n8⟩
    · rcases a1 with z | z
      · have e : gopq v0 (169 * q + x) = 5 := by
          unfold gopq
          rw [if_pos h0, if_pos z]
        rw [e]
        refine PLg_in c9 ?_ k9 l64
        rw [a5, if_pos z, tI_add (by omega) (by omega), e6k]
        omega
      · have nz : ¬ mI v0 (169 * q + x) 6 = 2 := by rw [z]; decide
        have e : gopq v0 (169 * q + x) = 6 := by
          unfold gopq
          rw [if_pos h0, if_neg nz, if_pos z]
        rw [e]
        refine PLg_O c9 ?_ k9 l64
        rw [a5, if_neg nz, tI_add (by omega) (by omega), e5k]
        omega
    · rcases a1 with z | z
      · exact absurd ⟨h0, z⟩ hn
      · have nz : ¬ mI v0 (169 * q + x) 6 = 2 := by rw [z]; decide
        have e : sop v0 (169 * q + x) = 9 := by
          unfold sop
          rw [if_pos h0, if_pos (Or.inr z)]
        rw [e]
        refine PLs_O c9 ?_ k9 l64
        rw [a5, if_neg nz, tI_add (by omega) (by omega), e5k]
        omega
/-- a parameter or local of the open routine as a place -/
theorem PX_L {md : Nat} {sl x : Int32} {Φ : CSt → RSt → Nat → (Nat → Int32) → Nat → Prop} (hR : RRr v0 u0 q s T r K F P) (hO : OFF v0 q r K) (hj : j < K) (hsl : sl.toInt = (160 * s + (F + j) : Nat)) (hmd : (md = 1 ∧ u0.1 70 = 2) ∨ (md = 2 ∧ u0.1 70 = 3)) : PX N (Φ, md, (mI v0 (169 * q + r) 7).toInt.toNat, fkq v0 q r K) v0 u0 (169 * q + (r + 1 + j)) sl x := by
  obtain ⟨a1, a2, a3, a4, a5, a6, a7, a8, a9, a10, a11, a12, a13, a14, a15, a16, a17⟩ := hR
  obtain ⟨b1, b2⟩ := a16 j hj
  obtain ⟨c1, c2, c3, c4, c5, c6, c7, c8⟩ := b2
  obtain ⟨o1, o2, o3, o4, o5, -⟩ := OFF_all hO
  obtain ⟨d1, d2, d3⟩ := o1 j hj
  have m1 : (-1 : Int32).toInt = -1 := by decide
  have ns : ¬ sl = -1 := fun z => by rw [z, m1] at hsl; omega
  have es : sl.toNatClampNeg = 160 * s + (F + j) := n_of hsl
  have n0 : ¬ mI v0 (169 * q + (r + 1 + j)) 2 = 0 := by rw [b1]; split <;> decide
  have c9 := nat_cl d1
  have e7 : (mI v0 (169 * q + (r + 1 + j)) 7).toInt = ((mI v0 (169 * q + (r + 1 + j)) 7).toInt.toNat : Int) := by omega
  have pq9 : poq u0 sl x = mI v0 (169 * q + (r + 1 + j)) 9 := by
    unfold poq
    rw [if_neg ns, es]
    exact c4
  have pz9 : poz u0 sl x = mI v0 (169 * q + (r + 1 + j)) 7 := by
    unfold poz
    rw [if_neg ns, es]
    exact c2
  have e4 : gopq v0 (169 * q + (r + 1 + j)) = 4 := if_neg n0
  have e8 : sop v0 (169 * q + (r + 1 + j)) = 8 := if_neg n0
  have e11 : rop v0 (169 * q + (r + 1 + j)) = 11 := if_neg n0
  have kf : ∀ i : Nat, (i : Int) < (mI v0 (169 * q + (r + 1 + j)) 7).toInt → fkq v0 q r K ((mI v0 (169 * q + (r + 1 + j)) 9).toNatClampNeg + i) = mI v0 (169 * q + (r + 1 + j)) 5 := fun i hi => fkq_at hO hj (by omega) (by omega)
  have kf0 := kf 0 (by omega)
  rw [Nat.add_zero] at kf0
  rw [PX, pq9, pz9, e4, e8, e11]
  rcases hmd with ⟨z1, z2⟩ | ⟨z1, z2⟩
  · have po : pop u0 sl = 11 := by
      unfold pop
      rw [if_neg ns, if_pos z2]
    rw [po]
    refine ⟨fun _ => ⟨fun _ g' => Int32.ofNat (g' + (mI v0 (169 * q + (r + 1 + j)) 9).toNatClampNeg), fun vF uF g gk n hz => PLg_S z1 c9 c9 (by show _ < (mI v0 (169 * q + r) 7).toInt.toNat; omega) kf0, fun _ vF uF g gk n hz => PLs_S z1 c9 c9 (by show _ < (mI v0 (169 * q + r) 7).toInt.toNat; omega) kf0 c7⟩, fun _ => ⟨_, _, c9, e7, c9, e7, fun vF uF g gk n hz => Or.inr (Or.inr ⟨z1, rfl, rfl, by show _ ≤ (mI v0 (169 * q + r) 7).toInt.toNat; omega, fun i hi => kf i (by omega)⟩)⟩, fun z => absurd z n0, fun _ y => n0 y.1⟩
  · have po : pop u0 sl = 12 := by
      unfold pop
      rw [if_neg ns, if_neg (by rw [z2]; decide)]
    rw [po]
    refine ⟨fun _ => ⟨fun f' _ => Int32.ofNat (f' + (mI v0 (169 * q + (r + 1 + j)) 9).toNatClampNeg), fun vF uF g gk n hz => PLg_F z1 c9 c9 (by show _ < (mI v0 (169 * q + r) 7).toInt.toNat; omega) kf0, fun _ vF uF g gk n hz => PLs_F z1 c9 c9 (by show _ < (mI v0 (169 * q + r) 7).toInt.toNat; omega) kf0 c7⟩, fun _ => ⟨_, _, c9, e7, c9, e7, fun vF uF g gk n hz => Or.inr (Or.inl ⟨z1, rfl, rfl, by show _ ≤ (mI v0 (169 * q + r) 7).toInt.toNat; omega, fun i hi => kf i (by omega)⟩)⟩, fun z => absurd z n0, fun _ y => n0 y.1⟩
/-- a function -/
theorem FNC_pk {vF : CSt} {uF : RSt} {g n Pn : Nat} {gk pk pk' : Nat → Int32} {fa qa rk : Int32} (h : FNC N vF uF g gk fa qa Pn pk rk n) (hp : ∀ i, i < Pn → pk' i = pk i) : FNC N vF uF g gk fa qa Pn pk' rk n := fun md sz fk m t f d k M I b1 b2 b3 p f' g' M' I' S c1 c2 c3 c4 Q s s' pb pl qb h1 h2 h3 h4 h5 h6 h7 => h md sz fk m t f d k M I b1 b2 b3 p f' g' M' I' S c1 c2 c3 c4 Q s s' pb pl qb h1 h2 h3 h4 h5 h6 (fun i hi => ⟨(h7 i hi).1, fun z => (h7 i hi).2 (by rw [hp i hi]; exact z)⟩)
/-- what every NAME means to both runs -/
theorem EV3_of {md sz : Nat} {fk : Nat → Int32} (hE : EV2 v0 u0 n) (hTR : TR v0 u0 q s T G) (hT2 : TR2 v0 u0 q s T) (hO : OWN v0 u0 q s T) (hI : INX v0 q T) (h8 : ∀ k, k < 8 → mI v0 (169 * q + (160 + k)) 4 = op8 (Int32.ofNat k))
    (hL : ∀ r K F P, r < T → (pI v0 q 15).toInt = (r : Int) → RRr v0 u0 q s T r K F P → (md = 1 ∧ u0.1 70 = 2 ∨ md = 2 ∧ u0.1 70 = 3) ∧ sz = (mI v0 (169 * q + r) 7).toInt.toNat ∧ fk = fkq v0 q r K) : EV3 N (PHI N v0 q s T, md, sz, fk) v0 u0 n := by
  obtain ⟨b, K, F, d0, dN⟩ := EVw_of hE.2.2.1 hE.2.2.2.2.1 hTR hO
  obtain ⟨t1, t2, t3, t4, t5, t5', t6, t7, t8, t9, t10, t11, t12, t13, t14, t15, t16, t17⟩ := id hTR
  obtain ⟨s1, s2, s3, s4, s5, s6, s7⟩ := id hT2
  have n12 := NUM_le s3
  refine ⟨hE, fun vF uF g gk n hz => hz.1, fun i hi ht => ?_⟩
  obtain ⟨m, sl, g, hm, hK, hM, hW⟩ := dN i hi ht
  refine ⟨m, sl, g, hm, hK, hM, ?_⟩
  rcases hW with ⟨j, w1, w2, w3⟩ | ⟨x, w1, w2, w3, w4, w5⟩ | ⟨k, w1, w2, w3, w4⟩ | w1
  · rcases d0 with z | ⟨r, P, z1, z2, z3, z4, z5, z6, z7, z8⟩
    · omega
    · obtain ⟨l1, l2, l3⟩ := hL r K F P z2 z8 z3
      have sr := (z3.2.2.2.2.2.2.2.2.2.2.2.2.2.2.2.1 j w1).1
      subst z1 w2 l2 l3
      refine ⟨fun _ => PX_L z3 (s7 r z2 z7 K z3.2.2.2.1) w1 w3 l1, fun y => ?_, fun y => ?_, fun y => ?_⟩
      · rw [y] at sr; split at sr <;> exact absurd sr (by decide)
      · rw [y] at sr; split at sr <;> exact absurd sr (by decide)
      · rw [y] at sr; split at sr <;> exact absurd sr (by decide)
  · subst w3 w4 w5
    have hg : ∀ a, mI v0 (169 * q + x) 2 = a → (if mI v0 (169 * q + x) 2 = a then mI v0 (169 * q + x) 4 else -1) = mI v0 (169 * q + x) 4 := fun a ha => if_pos ha
    refine ⟨fun y => ?_, fun y => ?_, fun y => ?_, fun y => ?_⟩
    · have y0 : mI v0 (169 * q + x) 2 = 0 := by
        rcases y with y | y | y
        · exact y
        · exact absurd w2 (by unfold gl; rw [y]; decide)
        · exact absurd w2 (by unfold gl; rw [y]; decide)
      dsimp only
      rw [hg 0 y0]
      exact PX_G hTR hT2 w1 y0
    · dsimp only
      rw [hg 1 y]
      obtain ⟨k, r, k1, k2, k3, k4, k5, k6, k7, k8, k9⟩ := t17 x w1 y
      obtain ⟨K', F', P', hR, -⟩ := t16 r k3 (Or.inl k5)
      have e38 : (24 * u0.1 56 + mI v0 (169 * q + x) 4).toNatClampNeg = 24 * s + k := n_of (m24 t6 t7 k1 (by omega)).1
      have eq24 : 24 * u0.1 56 + mI v0 (169 * q + x) 4 = Int32.ofNat (24 * s + (mI v0 (169 * q + x) 4).toNatClampNeg) := by
        rw [n_of k1]
        exact ofN_of (m24 t6 t7 k1 (by omega)).1
      obtain ⟨i1, i2⟩ := hI x w1 y r k4
      have hOF := s7 r k3 (Or.inl k5) K' hR.2.2.2.1
      obtain ⟨o1, -⟩ := OFF_all hOF
      have hIF : ∀ j, j < K' → IFX (PHI N v0 q s T, md, sz, fk) v0 u0 (mI v0 (169 * q + x) 9).toNatClampNeg (169 * q + (r + 1 + j)) (160 * s + (F' + j)) := by
        intro j hj
        obtain ⟨c1, c2, c3, c4, c5, c6, c7, c8⟩ := (hR.2.2.2.2.2.2.2.2.2.2.2.2.2.2.2.1 j hj).2
        obtain ⟨d1, d2, d3⟩ := o1 j hj
        have q1 := nat_cl d1
        have q2 := nat_cl i1
        have q3 : (mI v0 (169 * q + (r + 1 + j)) 7).toInt = ((mI v0 (169 * q + (r + 1 + j)) 7).toInt.toNat : Int) := by omega
        refine ⟨(mI v0 (169 * q + (r + 1 + j)) 9).toNatClampNeg, (mI v0 (169 * q + (r + 1 + j)) 7).toInt.toNat, q1, q3, by rw [c4]; exact q1, by rw [c2]; exact q3, by omega, by omega, fun vF uF g gk n hz i hi => ?_⟩
        have hK4 := hR.2.2.2.1
        exact hz.2.2.1 x w1 y r k4 j (by omega) i (by omega)
      refine ⟨169 * q + r, (mI v0 (169 * q + x) 9).toNatClampNeg, by omega, fun N v i l e hc => ?_, nat_cl i1, ?_, ?_, ?_, fun vF uF g gk n hz => ?_⟩
      · rw [t10]
        exact k2_name k4 (by rw [hc.pi q (by decide)]; exact t1) k3
      · rw [e38, k7]
        exact nat_cl i1
      · rw [e38]
        exact FI3_of hIF hR t14.1 t1 t2 (t11 r k3).1 t10 t6 t7 hE.2.2.2.2.1 k6 (fun i hi ht => (hE.2.2.1 i hi).2.2.2.2 ht)
      · rw [e38, n_of k6]
        have hPK := hR.2.2.2.2.2.2.2.2.2.2.2.1
        exact PA3_of (fun j hj => hIF j (by omega)) hR t14.1 t1 t2 (t11 r k3).1 t10 t6 t7 rfl
      · rw [eq24]
        exact hz.2.2.2.2 x w1 y
    · dsimp only
      rw [hg 4 y]
      obtain ⟨K', F', P', hR, -⟩ := t16 x w1 (Or.inr y)
      obtain ⟨a1, a2, a3, a4, a5, a6, a7, a8, a9, a10, a11, a12, a13, a14, a15, a16, a17⟩ := id hR
      have hk : (mI v0 (169 * q + x) 4).toInt = ((mI v0 (169 * q + x) 4).toNatClampNeg : Int) := nat_cl a1
      have e24 := (m24 t6 t7 hk (by omega)).2.2
      have eb : (24 * u0.1 56 + 8 + mI v0 (169 * q + x) 4).toNatClampNeg = bk v0 (169 * q + x) s := by
        rw [n_of e24]
        unfold bk
        rw [if_neg (by rw [y]; decide)]
      intro vF uF g gk n hz
      have := hz.2.2.2.1 x w1 y
      rw [ofN_of e24]
      refine FNC_pk this (fun i hi => ?_)
      unfold pkF
      have hi' : i < P' := by
        have : (mI v0 (169 * q + x) 11).toNatClampNeg = P' := n_of a11
        have hi : i < (mI v0 (169 * q + x) 11).toNatClampNeg := hi
        omega
      rw [← ofN_of e24, eb]
      have ii : (Int32.ofNat i).toInt = i := ofN_i (by omega)
      have : (160 * u0.1 56 + u0.2.2.1 28 (bk v0 (169 * q + x) s) + Int32.ofNat i).toNatClampNeg = 160 * s + (F' + i) := by
        have := (m24 t6 t7 a6 (by omega)).2.1
        refine n_of ?_
        rw [tI_add (by omega) (by omega), this, ii]
        omega
      rw [this]
      exact (a16 i (by omega)).2.1
    · exact absurd w2 (by unfold gl; rw [y]; decide)
  · subst w2
    obtain ⟨p1, -⟩ := t14.2.2.2.2.1 k w1
    refine ⟨fun y => ?_, fun y => ?_, fun y => ?_, fun _ => by rw [w4]; exact h8 k w1⟩
    · rw [p1] at y; rcases y with y | y | y <;> exact absurd y (by decide)
    · rw [p1] at y; exact absurd y (by decide)
    · rw [p1] at y; exact absurd y (by decide)
  · subst w1
    have p1 := t14.1
    refine ⟨fun y => ?_, fun y => ?_, fun y => ?_, fun y => ?_⟩
    · rw [p1] at y; rcases y with y | y | y <;> exact absurd y (by decide)
    · rw [p1] at y; exact absurd y (by decide)
    · rw [p1] at y; exact absurd y (by decide)
    · rw [p1] at y; exact absurd y (by decide)
end N4a
/-! Items with the code told: the code's picture outside of E's and Stats; the bodies of routines and tasks. -/
def CXc (v : CSt) (q : Nat) (κ : KC) : Prop := (pI v q 13).toInt = (κ.1 : Int) ∧ (fun s => (pA v q 11 s, pA v q 12 s, pA v q 13 s)) = κ.2.1 ∧ (pI v q 14).toInt = (κ.2.2.1 : Int) ∧ (fun s => (pB v q 15 s, pB v q 16 s)) = κ.2.2.2.1 ∧ cA v 233 = κ.2.2.2.2.1 ∧ cI v 14 = κ.2.2.2.2.2.1 ∧ cI v 15 = κ.2.2.2.2.2.2
def CXr (u : RSt) (δ : KRc) : Prop := (0 ≤ (u.1 56).toInt ∧ (u.1 56).toInt ≤ 1) ∧ (u.2.2.1 54 (u.1 56).toNatClampNeg).toInt + 8000 * (u.1 56).toInt = (δ.1 : Int) ∧ (fun s => (u.2.2.1 49 s, u.2.2.1 50 s, u.2.2.1 51 s, u.2.2.2 52 s, u.2.2.2 53 s)) = δ.2.1 ∧ u.2.2.1 75 = δ.2.2.1 ∧ u.2.2.1 76 = δ.2.2.2
def KP2 (κ κ' : KC) : Prop := κ.1 ≤ κ'.1 ∧ (∀ s, s < κ.1 → κ'.2.1 s = κ.2.1 s) ∧ κ.2.2.1 ≤ κ'.2.2.1 ∧ (∀ k, k < κ.2.2.1 → κ'.2.2.2.1 k = κ.2.2.2.1 k)
def RP2 (δ δ' : KRc) : Prop := δ.1 ≤ δ'.1 ∧ ∀ s, s < δ.1 → δ'.2.1 s = δ.2.1 s
/-- room in both codes between two Items -/
def KQn (s i : Nat) (κ : KC) (δ : KRc) : Prop := κ.1 ≤ 2 * i ∧ 2 * κ.2.2.1 ≤ i ∧ δ.1 ≤ 8000 * s + 5 * i
section N5a
variable {v0 v w : CSt} {u0 u x : RSt} {i j o l n q s T G r K F P N m : Nat} {e : E5} {c : R5} {κ κ1 κ2 : KC} {δ δ1 δ2 : KRc} {Z : EZ} {rk : Int32}
theorem CF_of (h : CE v0 v i l e) (hq : cR v0 3 = q) (hc : CXc v q κ) : CF v0 v i l e κ := by
  subst hq
  exact ⟨h, hc⟩
theorem CF.cx (h : CF v0 v i l e κ) (hq : cR v0 3 = q) : CXc v q κ := by
  subst hq
  exact h.2
theorem RF_of (h : RE u0 u i o l c) (hr : CXr u δ) : RFq u0 u i o l c δ := by
  have e : u.1 56 = u0.1 56 := h.sc (by decide)
  obtain ⟨a, b, d⟩ := hr
  rw [e] at a b
  exact ⟨h, a, b, d⟩
theorem RFq.cx (h : RFq u0 u i o l c δ) : CXr u δ := by
  have e : u.1 56 = u0.1 56 := h.sc (by decide)
  obtain ⟨-, a, b, d⟩ := h
  refine ⟨?_, ?_, d⟩
  · rw [e]; exact a
  · rw [e]; exact b
theorem CXc_fr (h : CXc v q κ) (hf : kcq v w) : CXc w q κ := by
  obtain ⟨f1, f2, f3, f4, f5, f6, f7⟩ := hf
  obtain ⟨a1, a2, a3, a4, a5, a6, a7⟩ := h
  refine ⟨?_, ?_, ?_, ?_, f5.trans a5, f6.trans a6, f7.trans a7⟩
  · rw [f1 q 13 (by decide)]; exact a1
  · rw [f2 q 11 (by decide), f2 q 12 (by decide), f2 q 13 (by decide)]; exact a2
  · rw [f1 q 14 (by decide)]; exact a3
  · have e : ∀ k, pB w q k = pB v q k := fun k => by
      show w.2.2.2.2.2.2.1 q k = v.2.2.2.2.2.2.1 q k
      rw [f3]
    rw [e 15, e 16]; exact a4
theorem CXr_fr (h : CXr u δ) (hf : rcq u x) : CXr x δ := by
  obtain ⟨f1, f2, f3⟩ := hf
  obtain ⟨a1, a2, a3, a4, a5⟩ := h
  refine ⟨?_, ?_, ?_, (f2 75 (by decide)).trans a4, (f2 76 (by decide)).trans a5⟩
  · rw [f1 56 (by decide)]; exact a1
  · rw [f1 56 (by decide), f2 54 (by decide)]; exact a2
  · rw [f2 49 (by decide), f2 50 (by decide), f2 51 (by decide), f3 52 (by decide), f3 53 (by decide)]; exact a3
theorem KP2_rf : KP2 κ κ := ⟨Nat.le_refl _, fun _ _ => rfl, Nat.le_refl _, fun _ _ => rfl⟩
theorem RP2_rf : RP2 δ δ := ⟨Nat.le_refl _, fun _ _ => rfl⟩
theorem KP2_tr (h : KP2 κ κ1) (h2 : KP2 κ1 κ2) : KP2 κ κ2 := by
  obtain ⟨a1, a2, a3, a4⟩ := h
  obtain ⟨b1, b2, b3, b4⟩ := h2
  exact ⟨by omega, fun s hs => (b2 s (by omega)).trans (a2 s hs), by omega, fun k hk => (b4 k (by omega)).trans (a4 k hk)⟩
theorem RP2_tr (h : RP2 δ δ1) (h2 : RP2 δ1 δ2) : RP2 δ δ2 := by
  obtain ⟨a1, a2⟩ := h
  obtain ⟨b1, b2⟩ := h2
  exact ⟨by omega, fun s hs => (b2 s (by omega)).trans (a2 s hs)⟩
theorem KS.kp {L : LQ} (h : KS κ κ1 L) : KP2 κ κ1 := ⟨h.1, h.2.1, h.2.2.1, h.2.2.2.1⟩
theorem RSq.rp {L : LQ} (h : RSq l δ δ1 L) : RP2 δ δ1 := ⟨h.1, h.2.1⟩
theorem KP2_stp {a b d : Int32} : KP2 κ (stp κ a b d) := ⟨Nat.le_succ _, fun _ hs => stp_lt hs, Nat.le_refl _, fun _ _ => rfl⟩
theorem RP2_em {a b d : Int32} {z : Int64} : RP2 δ (emL δ a b d z) := ⟨Nat.le_succ _, fun _ hs => emL_lt hs⟩
theorem RP2_ems {a b d : Int32} : RP2 δ (ems δ a b d) := RP2_em
/-- who is open, to both runs -/
theorem OWz_of (h : TR v0 u0 q s T G) (hO : OWN v0 u0 q s T) (hZ : (pI v0 q 15).toInt < 0 → ¬ Z.2.1 = 2) (hr : ∀ r : Nat, (pI v0 q 15).toInt = (r : Int) → (mI v0 (169 * q + r) 2 = 4 → Z.2.1 = 2 ∧ rk = mI v0 (169 * q + r) 5) ∧ (¬ mI v0 (169 * q + r) 2 = 4 → ¬ Z.2.1 = 2)) : OWz Z v0 u0 rk := by
  obtain ⟨t1, t2, t3, t4, t5, t5', t6, t7, t8, t9, t10, t11, t12, t13, t14, t15, t16, t17⟩ := h
  rcases hO with ⟨o1, o2⟩ | ⟨r, K, F, P, o1, o2, o3, o4, o5, o6, o7, o8, o9, o10, o11⟩
  · refine ⟨169 * q + 168, fun N v i l e _ => by rw [t9]; exact k2_noname o1, ⟨fun z => ?_, fun z => ?_⟩, fun z => ?_, fun _ => hZ o1⟩
    · rw [t14.1] at z; exact absurd z (by decide)
    · rw [z] at o2; exact absurd o2 (by decide)
    · rw [t14.1] at z; exact absurd z (by decide)
  · refine ⟨169 * q + r, fun N v i l e hc => by rw [t9]; exact k2_name o2 (by rw [hc.pi q (by decide)]; exact t1) o1, o9, fun z => ?_, (hr r o2).2⟩
    obtain ⟨a1, a2⟩ := o4.2.2.2.2.2.2.2.2.2.2.2.2.2.2.1 z
    rw [n_of o10]
    exact ⟨a1, a2, (hr r o2).1 z⟩
end N5a
/-- what the body of a routine or task leaves: w, x behind it; v1, u before it -/
def RBo (N q s T : Nat) (v1 : CSt) (u : RSt) (κ : KC) (δ : KRc) (md sz : Nat) (fk : Nat → Int32) (rk : Int32) (i j : Nat) (w : CSt) (x : RSt) : Prop := ∃ κ' δ', CXc w q κ' ∧ CXr x δ' ∧ SNG N (PHI N v1 q s T, md, sz, fk) κ κ' δ δ' 340 rk ∧ KP2 κ κ' ∧ RP2 δ δ' ∧ (κ'.1 + 2 * i ≤ κ.1 + 2 * j ∧ δ'.1 + 5 * i ≤ δ.1 + 5 * j ∧ 2 * κ'.2.2.1 + i ≤ 2 * κ.2.2.1 + j) ∧ mI w = mI v1 ∧ mL w = mL v1 ∧ w.2.2.2.2.2.2.2.1 = v1.2.2.2.2.2.2.2.1 ∧ cI w 12 = cI v1 12 ∧ pI w q 12 = pI v1 q 12 ∧ (∀ k, k ∈ [32, 45] → x.2.2.1 k = u.2.2.1 k)
section N5b
variable {v w : CSt} {u x : RSt} {i j o l n q s T G r K F P N m i0 : Nat} {e : E5} {c : R5} {κ : KC} {δ : KRc} {kd so f kr : Int32} {ty : Nat → Int32}
/-- Stats and the end of a routine, with the code -/
theorem jc_rbody (w70 : u.1 70 = 2 ∨ u.1 70 = 3) (hIT : IT v u q s n i 1 T G) (hO : OPN v u q s T r K F P) (hD : dSl (tyF v) (dSt (tyF v) 24) i (.inr j)) (hi : i ≤ n) (hf : (so = 3 ∧ f = 0) ∨ (so = 4 ∧ f = 1 ∧ kr = kd)) (hso : mI v (169 * q + r) 2 = so) (hkd : so = 4 → mI v (169 * q + r) 5 = kd) (hC : CXc v q κ) (hR : CXr u δ) (hQ : KQn s i0 κ δ) (hi0 : i0 + 1 ≤ i) (hX : INX v q T) (h8 : ∀ k, k < 8 → mI v (169 * q + (160 + k)) 4 = op8 (Int32.ofNat k)) (hNT : NTk v n) : jx (B_X3_routine_118 N so kd (169 * q + r) v) (LP_part_414 N N (f, kr, u)) (fun _ w _ x => RBo N q s T (xmI v (169 * q + r) 13 (pI v q 13)) u κ δ (if so = 3 then 1 else 2) (mI v (169 * q + r) 7).toInt.toNat (fkq v q r K) (mI v (169 * q + r) 5) i0 j w x) := by
  have t9 := hIT.2.2.2.2.1.2.2.2.2.2.2.2.2.2.1
  have t10 := hIT.2.2.2.2.1.2.2.2.2.2.2.2.2.2.2.1
  unfold B_X3_routine_118
  rw [t9]
  refine pq_ok (fun _ => pq_pc ?_)
  rw [part_body]
  have hI2 : IT (xmI v (169 * q + r) 13 (pI v q 13)) u q s n i 1 T G := IT_13 hIT
  have hO2 : OPN (xmI v (169 * q + r) 13 (pI v q 13)) u q s T r K F P := OPN_cong hO (fun y => ⟨fun k hk => mI_ne (Or.inr hk), fun _ => rfl⟩) rfl (FX.rf (a := []) (b := []) (c := [])) (by decide) (by decide) (by decide)
  have ty2 : tyF (xmI v (169 * q + r) 13 (pI v q 13)) = tyF v := rfl
  have nm : ∀ m k, ¬ k = 13 → mI (xmI v (169 * q + r) 13 (pI v q 13)) m k = mI v m k := fun m k hk => mI_ne (Or.inr hk)
  have hC2 : CXc (xmI v (169 * q + r) 13 (pI v q 13)) q κ := hC
  have hX2 : INX (xmI v (169 * q + r) 13 (pI v q 13)) q T := by
    intro y hy h1 r' h2
    rw [nm _ 2 (by decide)] at h1
    rw [nm _ 14 (by decide)] at h2
    rw [nm _ 9 (by decide), nm _ 7 (by decide)]
    exact hX y hy h1 r' h2
  have h82 : ∀ k, k < 8 → mI (xmI v (169 * q + r) 13 (pI v q 13)) (169 * q + (160 + k)) 4 = op8 (Int32.ofNat k) := fun k hk => by rw [nm _ 4 (by decide)]; exact h8 k hk
  have hNT2 : NTk (xmI v (169 * q + r) 13 (pI v q 13)) n := hNT
  have efk : fkq v q r K = fkq (xmI v (169 * q + r) 13 (pI v q 13)) q r K := by
    funext c
    unfold fkq
    simp only [nm _ 9 (by decide), nm _ 7 (by decide), nm _ 5 (by decide)]
  have e7 : mI v (169 * q + r) 7 = mI (xmI v (169 * q + r) 13 (pI v q 13)) (169 * q + r) 7 := (nm _ 7 (by decide)).symm
  have e5 : mI v (169 * q + r) 5 = mI (xmI v (169 * q + r) 13 (pI v q 13)) (169 * q + r) 5 := (nm _ 5 (by decide)).symm
  rw [efk, e7]
  rw [e5] at hkd ⊢
  rw [← nm _ 2 (by decide)] at hso
  rw [← ty2] at hD
  generalize xmI v (169 * q + r) 13 (pI v q 13) = v1 at hI2 hO2 hD hC2 hX2 h82 hNT2 hkd hso ⊢
  obtain ⟨hV, h, h', h16, hTR, hT2⟩ := id hI2
  have t9' := hTR.2.2.2.2.2.2.2.2.2.1
  have t10' := hTR.2.2.2.2.2.2.2.2.2.2.1
  have t6 := hTR.2.2.2.2.2.2.1
  have t7 := hTR.2.2.2.2.2.2.2.1
  have hn2 := hV.2.1.2.2
  have hj := hV.2.2.2.2.1
  have hE : EV2 v1 u n := EV_of hV.1 hV.2.1 hV.2.2.1 hV.2.2.2.1 hV.2.2.2.2.1 hTR hO2.own
  have key : ∀ md : Nat, ((so = 3 ∧ md = 1) ∨ (so = 4 ∧ md = 2)) → jx (G_X3_statements N v1) (LP_body_7 N (FS_ N 100) N u) (SJz N (PHI N v1 q s T, md, (mI v1 (169 * q + r) 7).toInt.toNat, fkq v1 q r K) v1 u n (i - 1) j 0 0 340 4 (mI v1 (169 * q + r) 5) κ δ) := by
    intro md hmd
    have o9 := hO2.2.2.2.2.2.2.2.2.1
    have o2 := hO2.2.1
    have hZ : EV3 N (PHI N v1 q s T, md, (mI v1 (169 * q + r) 7).toInt.toNat, fkq v1 q r K) v1 u n := by
      refine EV3_of hE hTR hT2 hO2.own hX2 h82 (fun r' K' F' P' h1 h2 h3 => ?_)
      have er : r' = r := by omega
      subst er
      have eK : K' = K := by
        have a := h3.2.2.2.1
        have b := hO2.2.2.2.1.2.2.2.1
        omega
      subst eK
      refine ⟨?_, rfl, rfl⟩
      rcases hmd with ⟨y1, y2⟩ | ⟨y1, y2⟩
      · refine Or.inl ⟨y2, w70.resolve_right (fun y => ?_)⟩
        have := o9.mpr y
        rw [hso, y1] at this
        exact absurd this (by decide)
      · exact Or.inr ⟨y2, o9.mp (by rw [hso, y1])⟩
    have hOz : OWz (PHI N v1 q s T, md, (mI v1 (169 * q + r) 7).toInt.toNat, fkq v1 q r K) v1 u (mI v1 (169 * q + r) 5) := by
      refine OWz_of hTR hO2.own (fun y => by omega) (fun r' h2 => ?_)
      have er : r' = r := by omega
      subst er
      rcases hmd with ⟨y1, y2⟩ | ⟨y1, y2⟩
      · refine ⟨fun z => ?_, fun _ => by show ¬ md = 2; omega⟩
        rw [hso, y1] at z
        exact absurd z (by decide)
      · exact ⟨fun _ => ⟨y2, rfl⟩, fun z => absurd (by rw [hso, y1]) z⟩
    have ei : i = i - 1 + 1 := by omega
    have hD' : dSl (tyF v1) (dSt (tyF v1) 24) (i - 1 + 1) (.inr j) := by rw [← ei]; exact hD
    have hcf : CF v1 v1 (i - 1 + 1) 0 (eC v1) κ := by rw [← ei]; exact CF_of h t10' hC2
    have hrf : RFq u u (i - 1 + 1) 1 0 (eR u) δ := by rw [← ei]; exact RF_of h' hR
    obtain ⟨b1, b2, b3⟩ := hQ
    exact z_bodyS hZ hNT2 hOz hD' (by omega) hcf hrf ⟨by omega, by rw [t6]; show _ ≤ 8000 * s + _ + 0; omega, by rw [t6]; show s ≤ 1; omega, by omega⟩ h16
  obtain ⟨b1, b2, b3⟩ := hQ
  have tail : ∀ (w : CSt) (e1 : E5) (κ' : KC), CF v1 w j 0 e1 κ' → (xpI w q 15 (-1)).2.2.2.2.2.2.2.1 = v1.2.2.2.2.2.2.2.1 ∧ mI (xpI w q 15 (-1)) = mI v1 ∧ mL (xpI w q 15 (-1)) = mL v1 ∧ cI (xpI w q 15 (-1)) 12 = cI v1 12 ∧ pI (xpI w q 15 (-1)) q 12 = pI v1 q 12 ∧ CXc (xpI w q 15 (-1)) q κ' := by
    intro w e1 κ' hw
    have t := hw.1.1.2.2.2.2.2
    have q12 : pI (xpI w q 15 (-1)) q 12 = pI w q 12 := pI_n (by decide)
    have cx := hw.cx t10'
    refine ⟨?_, ?_, ?_, hw.1.1.1 12 (by decide), q12.trans (hw.pi q (by decide)), ?_⟩
    · show w.2.2.2.2.2.2.2.1 = _
      rw [t]
    · show w.2.2.2.2.2.2.2.2.1 = v1.2.2.2.2.2.2.2.2.1
      rw [t]
    · show w.2.2.2.2.2.2.2.2.2.1 = v1.2.2.2.2.2.2.2.2.2.1
      rw [t]
    · obtain ⟨a1, a2, a3, a4, a5, a6, a7⟩ := cx
      exact ⟨by rw [pI_n (by decide)]; exact a1, a2, by rw [pI_n (by decide)]; exact a3, a4, a5, a6, a7⟩
  have tlr : ∀ (y : RSt) (c1 : R5) (δ' : KRc), RFq u y j 0 0 c1 δ' → CXr (sI y 70 0) δ' ∧ ∀ k, k ∈ [32, 45] → (sI y 70 0).2.2.1 k = u.2.2.1 k := by
    intro y c1 δ' hy
    refine ⟨?_, fun k hk => ?_⟩
    · obtain ⟨a1, a2, a3, a4, a5⟩ := hy.cx
      exact ⟨a1, a2, a3, a4, a5⟩
    · show y.2.2.1 k = u.2.2.1 k
      exact hy.row (fun z => by simp only [List.mem_cons, List.not_mem_nil, or_false] at hk z; omega)
  rcases hf with ⟨z1, z2⟩ | ⟨z1, z2, z3⟩
  · rw [if_pos z1]
    refine jx_bt (key 1 (Or.inl ⟨z1, rfl⟩)) ?_ (fun _ _ => by repeat' (first | exact KP_some kp_rf | with_reducible refine KP_bn ?_ (fun _ _ => ?_) | with_reducible refine KP_if ?_ ?_ | with_reducible refine KP_rd (fun _ => ?_) | with_reducible refine KP_zr ?_ | (with_reducible refine KP_pu2 ?_ ?_; first | exact ks_sI (by decide) kp_rf | exact ks_sL kp_rf | exact ks_sA (by decide) kp_rf | exact ks_sB (by decide) kp_rf) | (with_reducible refine KP_wr2 ?_ ?_; first | exact ks_sA (by decide) kp_rf | exact ks_sB (by decide) kp_rf) | with_reducible exact h_ro _ _ _ _ | with_reducible exact sk_F_is | with_reducible exact sk_F_take | with_reducible exact sk_F_emit | with_reducible exact sk_F_wrong | with_reducible exact sk_F_cost | with_reducible exact sk_F_stuck | with_reducible exact sk_F_ends | with_reducible exact sk_F_begins | with_reducible exact sk_F_opens | with_reducible exact sk_F_has | with_reducible exact sk_F_isNumber | with_reducible exact sk_F_isNext | with_reducible exact sk_F_push | with_reducible exact sk_F_lead | with_reducible exact sk_F_here | with_reducible exact sk_F_kind | with_reducible exact sk_F_isKind | with_reducible exact sk_F_own | with_reducible exact sk_F_constant | with_reducible exact sk_F_bounded | with_reducible exact sk_F_joined | with_reducible exact sk_F_strength | with_reducible exact sk_F_leadAll | with_reducible exact sk_F_loop | with_reducible exact sk_F_label | with_reducible exact sk_F_leaves | with_reducible exact sk_F_telling | with_reducible exact sk_F_local | with_reducible exact sk_F_addSlot | with_reducible exact sk_F_addVariable | with_reducible exact sk_F_isTooWide | with_reducible exact sk_F_named | with_reducible exact sk_F_slotOf | with_reducible exact sk_F_bad | with_reducible exact sk_G_expression | with_reducible exact sk_G_spot | with_reducible exact sk_G_body | with_reducible exact sk_G_stat | with_reducible exact sk_B_part_438 | (with_reducible refine sk_B_part_414 ?_ <;> assumption) | with_reducible exact sk_LP_part_414 _ _ | (with_reducible refine sk_B_part_396 ?_ <;> assumption) | with_reducible exact sk_LP_part_396 _ _ | with_reducible exact sk_B_part_355 | (with_reducible refine sk_B_part_338 ?_ <;> assumption) | with_reducible exact sk_LP_part_338 _ _ | with_reducible exact sk_B_part_300 | with_reducible exact sk_B_part_138 | with_reducible exact sk_B_part_125 | with_reducible exact sk_B_part_93 | with_reducible exact sk_B_part_85 | with_reducible exact sk_B_part_72 | with_reducible exact sk_B_part_61 | with_reducible exact sk_B_part_22 | with_reducible exact sk_B_part_0 | with_reducible exact sk_F_part))
    rintro pl w1 r1 x1 ⟨e1, c1, κ1, δ1, L, g1, r1, h01, hjn, ⟨k1, k2, k3, k4, k5, k6, k7⟩⟩
    have hL := k4 rfl
    subst hL
    rw [if_neg (by rw [z1]; decide), if_pos z2]
    refine pq_ok (fun _ => k3_step g1 ((g1.rf 2).trans (t9'.trans t10'.symm)) (by omega) (fun _ w2 _ g2 => pq_ok (fun _ => pq_pc (pq_some ?_))))
    rw [g2.rf, t9']
    refine w_emit hj r1 (by omega) (fun _ x2 _ r2 => pp_pu (pp_some (Or.inr ⟨0, rfl, ?_⟩)))
    obtain ⟨q1, q2, q3, q4, q5, q6⟩ := tail w2 _ _ g2
    obtain ⟨p1, p2⟩ := tlr x2 _ _ r2
    exact ⟨_, _, q6, p1, sng_ret (by show ¬ 1 = 2; decide) k3 k1 k2 (by omega), KP2_tr k1.kp KP2_stp, RP2_tr k2.rp RP2_ems, ⟨by show κ1.1 + 1 + 2 * i0 ≤ _; omega, by show δ1.1 + 1 + 5 * i0 ≤ _; omega, by show 2 * κ1.2.2.1 + i0 ≤ _; omega⟩, q2, q3, q1, q4, q5, p2⟩
  · rw [if_neg (by rw [z1]; decide)]
    refine jx_bt (key 2 (Or.inr ⟨z1, rfl⟩)) ?_ (fun _ _ => by repeat' (first | exact KP_some kp_rf | with_reducible refine KP_bn ?_ (fun _ _ => ?_) | with_reducible refine KP_if ?_ ?_ | with_reducible refine KP_rd (fun _ => ?_) | with_reducible refine KP_zr ?_ | (with_reducible refine KP_pu2 ?_ ?_; first | exact ks_sI (by decide) kp_rf | exact ks_sL kp_rf | exact ks_sA (by decide) kp_rf | exact ks_sB (by decide) kp_rf) | (with_reducible refine KP_wr2 ?_ ?_; first | exact ks_sA (by decide) kp_rf | exact ks_sB (by decide) kp_rf) | with_reducible exact h_ro _ _ _ _ | with_reducible exact sk_F_is | with_reducible exact sk_F_take | with_reducible exact sk_F_emit | with_reducible exact sk_F_wrong | with_reducible exact sk_F_cost | with_reducible exact sk_F_stuck | with_reducible exact sk_F_ends | with_reducible exact sk_F_begins | with_reducible exact sk_F_opens | with_reducible exact sk_F_has | with_reducible exact sk_F_isNumber | with_reducible exact sk_F_isNext | with_reducible exact sk_F_push | with_reducible exact sk_F_lead | with_reducible exact sk_F_here | with_reducible exact sk_F_kind | with_reducible exact sk_F_isKind | with_reducible exact sk_F_own | with_reducible exact sk_F_constant | with_reducible exact sk_F_bounded | with_reducible exact sk_F_joined | with_reducible exact sk_F_strength | with_reducible exact sk_F_leadAll | with_reducible exact sk_F_loop | with_reducible exact sk_F_label | with_reducible exact sk_F_leaves | with_reducible exact sk_F_telling | with_reducible exact sk_F_local | with_reducible exact sk_F_addSlot | with_reducible exact sk_F_addVariable | with_reducible exact sk_F_isTooWide | with_reducible exact sk_F_named | with_reducible exact sk_F_slotOf | with_reducible exact sk_F_bad | with_reducible exact sk_G_expression | with_reducible exact sk_G_spot | with_reducible exact sk_G_body | with_reducible exact sk_G_stat | with_reducible exact sk_B_part_438 | (with_reducible refine sk_B_part_414 ?_ <;> assumption) | with_reducible exact sk_LP_part_414 _ _ | (with_reducible refine sk_B_part_396 ?_ <;> assumption) | with_reducible exact sk_LP_part_396 _ _ | with_reducible exact sk_B_part_355 | (with_reducible refine sk_B_part_338 ?_ <;> assumption) | with_reducible exact sk_LP_part_338 _ _ | with_reducible exact sk_B_part_300 | with_reducible exact sk_B_part_138 | with_reducible exact sk_B_part_125 | with_reducible exact sk_B_part_93 | with_reducible exact sk_B_part_85 | with_reducible exact sk_B_part_72 | with_reducible exact sk_B_part_61 | with_reducible exact sk_B_part_22 | with_reducible exact sk_B_part_0 | with_reducible exact sk_F_part))
    rintro pl w1 r1 x1 ⟨e1, c1, κ1, δ1, L, g1, r1, h01, hjn, ⟨k1, k2, k3, k4, k5, k6, k7⟩⟩
    have hL := k4 rfl
    subst hL
    rw [if_pos z1, if_neg (by rw [z2]; decide)]
    have ek : kd = mI v1 (169 * q + r) 5 := (hkd z1).symm
    have er : kr = mI v1 (169 * q + r) 5 := z3.trans ek
    subst er
    rw [ek]
    refine pq_ok (fun _ => k3_const g1 ((g1.rf 2).trans (t9'.trans t10'.symm)) (by omega) (fun w2 g2 => pq_ok (fun _ => k3_step g2 ((g2.rf 2).trans (t9'.trans t10'.symm)) (by show κ1.1 + 1 < 3200; omega) (fun _ w3 _ g3 => pq_ok (fun _ => pq_pc (pq_some ?_))))))
    rw [g3.rf, t9']
    refine w_push hj r1 (by omega) (fun x2 r2 => w_emit hj r2 (by show δ1.1 + 1 < 16000; omega) (fun _ x3 _ r3 => pp_pu (pp_some (Or.inr ⟨0, rfl, ?_⟩))))
    obtain ⟨q1, q2, q3, q4, q5, q6⟩ := tail w3 _ _ g3
    obtain ⟨p1, p2⟩ := tlr x3 _ _ r3
    exact ⟨_, _, q6, p1, sng_give rfl k3 k1 k2 (by omega), KP2_tr k1.kp (KP2_tr KP2_stp KP2_stp), RP2_tr k2.rp (RP2_tr RP2_em RP2_ems), ⟨by show κ1.1 + 1 + 1 + 2 * i0 ≤ _; omega, by show δ1.1 + 1 + 1 + 5 * i0 ≤ _; omega, by show 2 * κ1.2.2.1 + i0 ≤ _; omega⟩, q2, q3, q1, q4, q5, p2⟩
/-- the body of a task, with the code -/
theorem jc_tbody (hI : IT v u q s n i 0 T G) (hO : OWN0 v u q) (hD : dBo (tyF v) 25 i (.inr j)) (hi : i ≤ n) (hC : CXc v q κ) (hR : CXr u δ) (hQ : KQn s i0 κ δ) (hi0 : i0 ≤ i) (hX : INX v q T) (h8 : ∀ k, k < 8 → mI v (169 * q + (160 + k)) 4 = op8 (Int32.ofNat k)) (hNT : NTk v n) : jx (B_X3_cyclic_94 N v) (B_tasked_213 N u) (fun _ w _ x => RBo N q s T v u κ δ 0 0 (fun _ => 0) 0 i0 j w x) := by
  obtain ⟨hV, h, h', h16, hTR, hT2⟩ := id hI
  have hj := hV.2.2.2.2.1
  have hn2 := hV.2.1.2.2
  have t6 := hTR.2.2.2.2.2.2.1
  have t7 := hTR.2.2.2.2.2.2.2.1
  have t9 := hTR.2.2.2.2.2.2.2.2.2.1
  have t10 := hTR.2.2.2.2.2.2.2.2.2.2.1
  have hE : EV2 v u n := EV_of hV.1 hV.2.1 hV.2.2.1 hV.2.2.2.1 hV.2.2.2.2.1 hTR (Or.inl hO)
  have hZ : EV3 N (PHI N v q s T, 0, 0, fun _ => 0) v u n := EV3_of hE hTR hT2 (Or.inl hO) hX h8 (fun r' K' F' P' h1 h2 h3 => by have := hO.1; omega)
  have hOz : OWz (PHI N v q s T, 0, 0, fun _ => 0) v u 0 := OWz_of hTR (Or.inl hO) (fun _ => by show ¬ 0 = 2; decide) (fun r' h2 => by have := hO.1; omega)
  obtain ⟨k1, p1, p2⟩ := oS_r (show oS (oP (tyF v) (0 < 24) 123) (dSl (tyF v) (dSt (tyF v) 24)) i (.inr j) from hD)
  obtain ⟨t1, -, rfl⟩ := oP_r p1
  have hil := hV.lt hi (by rw [t1]; exact nEnd (by decide) (by decide) (by decide))
  unfold B_X3_cyclic_94 B_tasked_213
  refine k3_next hV.1 (CF_of h t10 hC) hil (fun w1 g1 => pq_ok (fun _ => ?_))
  have gb : ∀ {γ : Type} {k' : Int32 → RSt → Option (γ × RSt)}, bn (G_body N u) k' = bn (F_begins N 225 u) (fun _ u_7 => bn (LP_body_7 N (FS_ N 99) N u_7) k') := by
    intro γ k'
    show bn (F_body N (FS_ N 99) u) k' = _
    unfold F_body B_body_0
    rw [bn_as]
  rw [gb]
  refine jx_r (w_begins hV.2.1 (t := 123) (by decide +kernel) (RF_of h' hR) hil t1 (by omega) (fun x1 r1 => jx_l ?_))
  obtain ⟨b1, b2, b3⟩ := hQ
  have st : jx (G_X3_statements N w1) (LP_body_7 N (FS_ N 99) N x1) (SJz N (PHI N v q s T, 0, 0, fun _ => 0) v u n i j 0 0 340 4 0 κ δ) := z_bodyS hZ hNT hOz p2 (by omega) g1 r1 ⟨by omega, by rw [t6]; show _ ≤ 8000 * s + _ + 0; omega, by rw [t6]; show s ≤ 1; omega, by omega⟩ h16
  refine jx_bt st ?_ (fun _ _ => by repeat' (first | exact KP_some kp_rf | with_reducible refine KP_bn ?_ (fun _ _ => ?_) | with_reducible refine KP_if ?_ ?_ | with_reducible refine KP_rd (fun _ => ?_) | with_reducible refine KP_zr ?_ | (with_reducible refine KP_pu2 ?_ ?_; first | exact ks_sI (by decide) kp_rf | exact ks_sL kp_rf | exact ks_sA (by decide) kp_rf | exact ks_sB (by decide) kp_rf) | (with_reducible refine KP_wr2 ?_ ?_; first | exact ks_sA (by decide) kp_rf | exact ks_sB (by decide) kp_rf) | with_reducible exact h_ro _ _ _ _ | with_reducible exact sk_F_is | with_reducible exact sk_F_take | with_reducible exact sk_F_emit | with_reducible exact sk_F_wrong | with_reducible exact sk_F_cost | with_reducible exact sk_F_stuck | with_reducible exact sk_F_ends | with_reducible exact sk_F_begins | with_reducible exact sk_F_opens | with_reducible exact sk_F_has | with_reducible exact sk_F_isNumber | with_reducible exact sk_F_isNext | with_reducible exact sk_F_push | with_reducible exact sk_F_lead | with_reducible exact sk_F_here | with_reducible exact sk_F_kind | with_reducible exact sk_F_isKind | with_reducible exact sk_F_own | with_reducible exact sk_F_constant | with_reducible exact sk_F_bounded | with_reducible exact sk_F_joined | with_reducible exact sk_F_strength | with_reducible exact sk_F_leadAll | with_reducible exact sk_F_loop | with_reducible exact sk_F_label | with_reducible exact sk_F_leaves | with_reducible exact sk_F_telling | with_reducible exact sk_F_local | with_reducible exact sk_F_addSlot | with_reducible exact sk_F_addVariable | with_reducible exact sk_F_isTooWide | with_reducible exact sk_F_named | with_reducible exact sk_F_slotOf | with_reducible exact sk_F_bad | with_reducible exact sk_G_expression | with_reducible exact sk_G_spot | with_reducible exact sk_G_body | with_reducible exact sk_G_stat | with_reducible exact sk_B_tasked_213 | with_reducible exact sk_B_tasked_125 | with_reducible exact sk_B_tasked_53 | with_reducible exact sk_B_tasked_0 | with_reducible exact sk_F_tasked))
  rintro pl w2 r2 x2 ⟨e2, c2, κ1, δ1, L, g2, r2, h02, hjn, ⟨k1, k2, k3, k4, k5, k6, k7⟩⟩
  have hL := k4 rfl
  subst hL
  refine k3_step g2 ((g1.rf 2).trans (t9.trans t10.symm)) (by omega) (fun _ w3 _ g3 => pq_some ?_)
  refine w_emit hj r2 (by omega) (fun _ x3 _ r3 => pp_pu (pp_some (Or.inr ⟨0, rfl, ?_⟩)))
  have t := g3.1.1.2.2.2.2.2
  have rr : ∀ k, k ∈ [32, 45] → (sI x3 70 0).2.2.1 k = u.2.2.1 k := fun k hk => by
    show x3.2.2.1 k = u.2.2.1 k
    exact r3.row (fun z => by simp only [List.mem_cons, List.not_mem_nil, or_false] at hk z; omega)
  obtain ⟨a1, a2, a3, a4, a5⟩ := r3.cx
  refine ⟨_, _, g3.cx t10, ⟨a1, a2, a3, a4, a5⟩, sng_ret (by show ¬ 0 = 2; decide) k3 k1 k2 (by omega), KP2_tr k1.kp KP2_stp, RP2_tr k2.rp RP2_ems, ⟨by show κ1.1 + 1 + 2 * i0 ≤ _; omega, by show δ1.1 + 1 + 5 * i0 ≤ _; omega, by show 2 * κ1.2.2.1 + i0 ≤ _; omega⟩, ?_, ?_, ?_, g3.1.1.1 12 (by decide), g3.pi q (by decide), rr⟩
  · show w3.2.2.2.2.2.2.2.2.1 = v.2.2.2.2.2.2.2.2.1
    rw [t]
  · show w3.2.2.2.2.2.2.2.2.2.1 = v.2.2.2.2.2.2.2.2.2.1
    rw [t]
  · rw [t]
end N5b
/-! Items with the code told: what the class's programs do to names and numbers; where numbers lie. -/
section N6a
variable {α β γ : Type} {X : Option (Sum Nat β × CSt)} {Y : Option (γ × RSt)} {A : β → CSt → γ → RSt → Prop}
/-- what each side alone leaves, joined -/
theorem jx_fr {P : CSt → Prop} {R : RSt → Prop} (h : jx X Y A) (hX : ∀ b w, X = some (.inr b, w) → P w) (hY : ∀ r x, Y = some (r, x) → R x) : jx X Y (fun b w r x => A b w r x ∧ P w ∧ R x) := by
  intro y w e r x e'
  rcases h y w e r x e' with z | ⟨b, z1, z2⟩
  · exact Or.inl z
  · subst z1
    exact Or.inr ⟨b, rfl, z2, hX b w e, hY r x e'⟩
/-- a step of the class with what it alone leaves -/
theorem jx_bq {X0 : Option (Sum Nat α × CSt)} {k : α → CSt → Option (Sum Nat β × CSt)} {P : α → CSt → Prop} (hP : ∀ r w, X0 = some (.inr r, w) → P r w) (h : jx (bt X0 (fun r w => @ite _ (P r w) (Classical.propDecidable _) (k r w) none)) Y A) : jx (bt X0 k) Y A := by
  have e : bt X0 (fun r w => @ite _ (P r w) (Classical.propDecidable _) (k r w) none) = bt X0 k := by
    unfold bt
    cases hx : X0 with
    | none => rfl
    | some a =>
      obtain ⟨y, w⟩ := a
      cases y with
      | inl n => rfl
      | inr r => exact if_pos (hP r w hx)
  rw [← e]
  exact h
theorem jx_ifP {P : Prop} (h : P → jx X Y A) : jx (@ite _ P (Classical.propDecidable _) X none) Y A := by
  by_cases z : P
  · rw [if_pos z]; exact h z
  · rw [if_neg z]; exact jx_no
end N6a
/-- behind a new name r of the sort so: w before it -/
def OAq (w : CSt) (r : Nat) (so : Int32) (z : CSt) : Prop := (pI z (cR w 2) 12).toInt = (pI w (cR w 2) 12).toInt + 1 ∧ cR z 2 = cR w 2 ∧ (∀ p, pI z p 15 = pI w p 15) ∧ (∀ m k, m ≠ r → mI z m k = mI w m k ∧ mL z m k = mL w m k) ∧ mI z r 2 = so ∧ cI z 12 = cI w 12 ∧ r = 169 * cR w 2 + (pI w (cR w 2) 12).toInt.toNat ∧ 0 ≤ (pI w (cR w 2) 12).toInt ∧ (pI w (cR w 2) 12).toInt < 160
section N6b
variable {β : Type} {u v w z z2 : CSt} {N q m r k : Nat} {l1 l2 l3 l4 so a : Int32} {y2 b : Int64}
theorem OAq.mIq (h : OAq w r so z) (hk : k ≠ 2) : OAq w r so (xmI z r k a) := by
  obtain ⟨a1, a2, a3, a4, a5, a6⟩ := h
  refine ⟨a1, a2, a3, fun m j hm => ⟨?_, (a4 m j hm).2⟩, ?_, a6⟩
  · rw [mI_ne (Or.inl hm)]; exact (a4 m j hm).1
  · rw [h_mI2 (fun e => hk e.symm)]; exact a5
theorem OAq.mLq (h : OAq w r so z) : OAq w r so (xmL z r k b) := by
  obtain ⟨a1, a2, a3, a4, a5, a6⟩ := h
  refine ⟨a1, a2, a3, fun m j hm => ⟨(a4 m j hm).1, ?_⟩, a5, a6⟩
  show (if m = r then (if j = k then b else mL z m j) else mL z m j) = _
  rw [if_neg hm]
  exact (a4 m j hm).2
theorem smf.mI (h : smf z z2) (m k : Nat) : mI z2 m k = mI z m k := by
  show z2.2.2.2.2.2.2.2.2.1 m k = z.2.2.2.2.2.2.2.2.1 m k
  rw [h.2]
theorem smf.mL (h : smf z z2) (m k : Nat) : mL z2 m k = mL z m k := by
  show z2.2.2.2.2.2.2.2.2.2.1 m k = z.2.2.2.2.2.2.2.2.2.1 m k
  rw [h.2]
theorem smf.pI (h : smf z z2) (m k : Nat) : pI z2 m k = pI z m k := by
  show z2.2.2.2.2.1 m k = z.2.2.2.2.1 m k
  rw [h.2]
theorem smf.cR (h : smf z z2) (k : Nat) : cR z2 k = cR z k := by
  show z2.2.2.2.2.2.2.2.2.2.2 k = z.2.2.2.2.2.2.2.2.2.2 k
  rw [h.2]
theorem OAq.sm (h : OAq w r so z) (hs : smf z z2) : OAq w r so z2 := by
  obtain ⟨a1, a2, a3, a4, a5, a6, a7⟩ := h
  refine ⟨by rw [hs.pI]; exact a1, (hs.cR 2).trans a2, fun p => (hs.pI p 15).trans (a3 p), fun m j hm => ⟨(hs.mI m j).trans (a4 m j hm).1, (hs.mL m j).trans (a4 m j hm).2⟩, (hs.mI r 2).trans a5, (hs.1 12 (by decide)).trans a6, a7⟩
theorem E_new : pq (F_X3_newName N l1 w) (fun y z => ∀ r, y = .inr r → OAq w r l1 z) := by
  refine pq_m (pq_and (hb_new (S := fun m _ => m ≠ 169 * cR w 2 + (pI w (cR w 2) 12).toInt.toNat) (u := w) kb_rf (fun t k h1 h2 hz => hz (by omega))) (n12_F_X3_newName (u := w)).p) (fun y z hz r e => ?_)
  obtain ⟨⟨h1, h2⟩, h3⟩ := hz
  obtain ⟨⟨b1, b2, b3, b4, b5, b6⟩, b7, b8⟩ := h2 r e
  have hc := h1.2.1
  rw [hc] at b5 b6
  have er : r = 169 * cR w 2 + (pI w (cR w 2) 12).toInt.toNat := by rw [b5, b7]
  exact ⟨by rw [b6, b7], hc, h1.2.2.1, fun m k hm => h1.1 m k (by rw [← er]; exact hm), b8, h3, er, by omega, by omega⟩
/-- one variable of the text -/
theorem E_one : pq (F_X3_oneVariable N 0 l2 l3 w) (fun y z => ∀ b, y = .inr b → ∃ r, OAq w r 0 (xI z 12 (cI w 12)) ∧ mI z r 9 = cI w 12 ∧ cI z 12 = cI w 12 + mI z r 7 ∧ mI z r 6 = l2) := by
  have b112 : ∀ (a : Int32) (r : Nat) (z : CSt), OAq w r 0 z → mI z r 6 = l2 → pq (B_X3_oneVariable_112 N 0 l3 a r z) (fun y z => ∀ b, y = .inr b → ∃ r, OAq w r 0 (xI z 12 (cI w 12)) ∧ mI z r 9 = cI w 12 ∧ cI z 12 = cI w 12 + mI z r 7 ∧ mI z r 6 = l2) := by
    intro a r z hz h6
    unfold B_X3_oneVariable_112
    rw [if_pos rfl]
    refine pq_pc ?_
    unfold F_X3_allot B_X3_allot_0
    have h2 : OAq w r 0 (xmI z r 9 (cI z 12)) := hz.mIq (by decide)
    have e9 : mI (xmI z r 9 (cI z 12)) r 9 = cI w 12 := by rw [h_mI]; exact hz.2.2.2.2.2.1
    have e6 : mI (xmI z r 9 (cI z 12)) r 6 = l2 := by rw [h_mI2 (by decide)]; exact h6
    have e12 : cI (xmI z r 9 (cI z 12)) 12 = cI w 12 := h2.2.2.2.2.2.1
    generalize xmI z r 9 (cI z 12) = z1 at h2 e9 e6 e12 ⊢
    refine pq_bt (pq_rd (pq_wc (pq_pc (pq_rd (pq_if (fun _ => pq_some ⟨(fun _ q => nomatch q), fun _ _ => pq_some (fun _ _ => ⟨r, ?_, e9, ?_, e6⟩)⟩) (fun _ => pq_refuse ⟨fun _ q => ?_, fun _ q => nomatch q⟩))))))
    · obtain ⟨a1, a2, a3, a4, a5, a6, a7⟩ := h2
      exact ⟨a1, a2, a3, a4, a5, rfl, a7⟩
    · show cI z1 12 + mI z1 r 7 = cI w 12 + mI z1 r 7
      rw [e12]
    · intro b e
      cases e
  have b83 : ∀ (a : Int32) (r : Nat) (z : CSt), OAq w r 0 z → mI z r 6 = l2 → pq (B_X3_oneVariable_83 N 0 l3 a r z) (fun y z => ∀ b, y = .inr b → ∃ r, OAq w r 0 (xI z 12 (cI w 12)) ∧ mI z r 9 = cI w 12 ∧ cI z 12 = cI w 12 + mI z r 7 ∧ mI z r 6 = l2) := by
    intro a r z hz h6
    unfold B_X3_oneVariable_83
    refine pq_bc (pq_m nsm_F_X9_is.p (fun _ z1 h1 => pq_if (fun _ => b112 _ _ _ (hz.sm h1) ((h1.mI r 6).trans h6)) (fun _ => pq_bc (pq_m nsm_F_X9_next.p (fun _ z2 h2 => ?_)))))
    refine pq_bt (pq_m nsm_F_X3_constant.p (fun y z3 h3 => ⟨fun _ _ => fun b e => (nomatch e), fun _ _ => pq_pc (b112 _ _ _ (((hz.sm h1).sm h2).sm h3).mLq ((h3.mI r 6).trans ((h2.mI r 6).trans ((h1.mI r 6).trans h6))))⟩))
  unfold F_X3_oneVariable B_X3_oneVariable_0
  refine pq_bc (pq_m pz_here (fun _ z0 h0 => ?_))
  rw [h0]
  refine pq_bt (pq_m E_new (fun y z hz => ⟨fun _ _ => fun b e => (nomatch e), fun r e => pq_ok (fun _ => pq_pc (pq_pc (pq_pc ?_)))⟩))
  have h1 := (((hz r e).mIq (k := 6) (a := l2) (by decide)).mIq (k := 5) (a := l3) (by decide)).mIq (k := 7) (a := 1) (by decide)
  have e6 : mI (xmI (xmI (xmI z r 6 l2) r 5 l3) r 7 1) r 6 = l2 := by rw [h_mI2 (by decide), h_mI2 (by decide), h_mI]
  generalize xmI (xmI (xmI z r 6 l2) r 5 l3) r 7 1 = z1 at h1 e6 ⊢
  refine pq_bc (pq_m nsm_F_X9_is.p (fun _ z3 h3 => pq_if (fun _ => b83 _ _ _ (h1.sm h3) ((h3.mI r 6).trans e6)) (fun _ => pq_bc (pq_m nsm_F_X9_next.p (fun _ z4 h4 => pq_pc ?_)))))
  refine pq_bt (pq_m nsm_F_X9_takeBounded.p (fun y z5 h5 => ⟨fun _ _ => fun b e => (nomatch e), fun _ _ => pq_pc (pq_bc (pq_m nsm_F_X9_next.p (fun _ z6 h6 => b83 _ _ _ ?_ ?_)))⟩))
  · exact ((((((h1.sm h3).sm h4).mIq (by decide)).sm h5).mIq (by decide)).sm h6)
  · rw [h6.mI, h_mI2 (by decide), h5.mI, h_mI2 (by decide), h4.mI, h3.mI]
    exact e6
/-- in, out -/
theorem E_plc : pq (F_X3_placed N l1 w) (fun y z => ∀ b, y = .inr b → ∃ r, OAq w r 0 z ∧ mI z r 6 = l1) := by
  unfold F_X3_placed B_X3_placed_0
  refine pq_bc (pq_m nsm_F_X9_takeKind.p (fun k0 z0 h0 => ?_))
  have tr : ∀ {z r}, OAq z0 r 0 z → OAq w r 0 z := by
    intro z r h
    obtain ⟨a1, a2, a3, a4, a5, a6, a7, a8, a9⟩ := h
    rw [h0.cR, h0.pI] at a1 a7
    rw [h0.cR] at a2
    rw [h0.cR, h0.pI] at a8 a9
    exact ⟨a1, a2, fun p => (a3 p).trans (h0.pI p 15), fun m j hm => ⟨((a4 m j hm).1).trans (h0.mI m j), ((a4 m j hm).2).trans (h0.mL m j)⟩, a5, a6.trans (h0.1 12 (by decide)), a7, a8, a9⟩
  refine pq_bt (pq_m E_new (fun y z hz => ⟨fun _ _ => fun b e => (nomatch e), fun r e => pq_ok (fun _ => pq_pc (pq_pc (pq_pc ?_)))⟩))
  have h1 := (((tr (hz r e)).mIq (k := 6) (a := l1) (by decide)).mIq (k := 5) (a := k0) (by decide)).mIq (k := 7) (a := 1) (by decide)
  have e6 : mI (xmI (xmI (xmI z r 6 l1) r 5 k0) r 7 1) r 6 = l1 := by rw [h_mI2 (by decide), h_mI2 (by decide), h_mI]
  generalize xmI (xmI (xmI z r 6 l1) r 5 k0) r 7 1 = z1 at h1 e6 ⊢
  refine pq_bc (pq_m nsm_F_X9_next.p (fun _ z3 h3 => pq_rd (pq_bt (pq_m nsm_F_X9_takeBounded.p (fun y z5 h5 => ⟨fun _ _ => fun b e => (nomatch e), fun _ _ => pq_pc (pq_bc (pq_m nsm_F_X9_next.p (fun _ z6 h6 => pq_some (fun _ _ => ⟨r, (((h1.sm h3).sm h5).mIq (by decide)).sm h6, ?_⟩))))⟩)))))
  rw [h6.mI, h_mI2 (by decide), h5.mI, h3.mI]
  exact e6
/-- one instance: its name -/
theorem E_use {l1 : Nat} (hl : l1 < 169 * cR w 2 + (pI w (cR w 2) 12).toInt.toNat) : pq (F_X3_oneUse N l1 w) (fun y z => ∀ b, y = .inr b → ∃ r, OAq w r 1 (xI z 12 (cI w 12)) ∧ mI z r 9 = cI w 12 ∧ mI z r 14 = mI w l1 3) := by
  have loop : ∀ (M : Nat) (a b : Int32) (z : CSt), pq (LP_X3_oneUse_33 N M (l1, a, b, z)) (fun _ z2 => mI z2 = mI z ∧ mL z2 = mL z ∧ pI z2 = pI z ∧ cR z2 = cR z) := by
    intro M
    induction M with
    | zero => intro a b z r' z' e; cases e
    | succ M ih =>
      intro a b z
      show pq (B_X3_oneUse_33 N (LP_X3_oneUse_33 N M) l1 a b z) _
      unfold B_X3_oneUse_33
      refine pq_if (fun _ => pq_some ⟨rfl, rfl, rfl, rfl⟩) (fun _ => pq_ok (fun _ => pq_bc (pq_m nsm_F_X6_local.p (fun _ z1 h1 => pq_ok (fun _ => ?_)))))
      have e1 : z1.2 = z.2 := h1.2
      unfold F_X3_allot B_X3_allot_0
      refine pq_bt (pq_rd (pq_wc (pq_pc (pq_rd (pq_if (fun _ => pq_some ⟨(fun _ q => nomatch q), fun _ _ => ?_⟩) (fun _ => pq_refuse ⟨fun _ q => ?_, fun _ q => nomatch q⟩))))))
      · refine pq_m (ih _ _ _) (fun _ z2 hz => ?_)
        obtain ⟨c1, c2, c3, c4⟩ := hz
        refine ⟨c1.trans ?_, c2.trans ?_, c3.trans ?_, c4.trans ?_⟩
        · show z1.2.2.2.2.2.2.2.2.1 = z.2.2.2.2.2.2.2.2.1
          rw [e1]
        · show z1.2.2.2.2.2.2.2.2.2.1 = z.2.2.2.2.2.2.2.2.2.1
          rw [e1]
        · show z1.2.2.2.2.1 = z.2.2.2.2.1
          rw [e1]
        · show z1.2.2.2.2.2.2.2.2.2.2 = z.2.2.2.2.2.2.2.2.2.2
          rw [e1]
      · refine ⟨?_, ?_, ?_, ?_⟩
        · show z1.2.2.2.2.2.2.2.2.1 = z.2.2.2.2.2.2.2.2.1
          rw [e1]
        · show z1.2.2.2.2.2.2.2.2.2.1 = z.2.2.2.2.2.2.2.2.2.1
          rw [e1]
        · show z1.2.2.2.2.1 = z.2.2.2.2.1
          rw [e1]
        · show z1.2.2.2.2.2.2.2.2.2.2 = z.2.2.2.2.2.2.2.2.2.2
          rw [e1]
  unfold F_X3_oneUse B_X3_oneUse_0
  refine pq_bc (pq_m pz_here (fun _ z0 h0 => ?_))
  rw [h0]
  refine pq_bt (pq_m E_new (fun y z hz => ⟨fun _ _ => fun b e => (nomatch e), fun r e => pq_ok (fun _ => pq_pc (pq_pc (pq_m (loop _ _ _ _) (fun y2 z2 hz2 b _ => ⟨r, ?_, ?_, ?_⟩))))⟩))
  · obtain ⟨a1, a2, a3, a4, a5, a6, a7⟩ := ((hz r e).mIq (k := 14) (a := mI z l1 3) (by decide)).mIq (k := 9) (a := cI (xmI z r 14 (mI z l1 3)) 12) (by decide)
    obtain ⟨c1, c2, c3, c4⟩ := hz2
    refine ⟨?_, ?_, fun p => ?_, fun m j hm => ⟨?_, ?_⟩, ?_, rfl, a7⟩
    · show (pI z2 (cR w 2) 12).toInt = _
      rw [c3]; exact a1
    · show cR z2 2 = _
      rw [c4]; exact a2
    · show pI z2 p 15 = _
      rw [c3]; exact a3 p
    · show mI z2 m j = _
      rw [c1]; exact (a4 m j hm).1
    · show mL z2 m j = _
      rw [c2]; exact (a4 m j hm).2
    · show mI z2 r 2 = _
      rw [c1]; exact a5
  · obtain ⟨c1, -⟩ := hz2
    rw [c1, h_mI]
    exact (hz r e).2.2.2.2.2.1
  · obtain ⟨c1, -⟩ := hz2
    have hr := (hz r e).2.2.2.2.2.2.1
    rw [c1, h_mI2 (by decide), h_mI]
    exact ((hz r e).2.2.2.1 l1 3 (by omega)).1
/-- a parameter: its size is 1, the routine has one more -/
theorem E_par {ro : Nat} (ho : (pI w (cR w 2) 15).toInt = (ro : Int)) (hoT : (ro : Int) < (pI w (cR w 2) 12).toInt) : pq (B_X3_parameter_19 N w) (fun y z => ∀ b, y = .inr b → ∃ r, r = 169 * cR w 2 + (pI w (cR w 2) 12).toInt.toNat ∧ mI z r 7 = 1 ∧ mI z (169 * cR w 2 + ro) 11 = mI w (169 * cR w 2 + ro) 11 + 1 ∧ (pI z (cR w 2) 12).toInt = (pI w (cR w 2) 12).toInt + 1) := by
  unfold B_X3_parameter_19
  refine pq_bc (pq_m nsm_F_X9_takeKind.p (fun k0 z0 h0 => pq_bc (pq_m pz_here (fun _ z1 h1 => ?_))))
  rw [h1]
  refine pq_bt (pq_m E_new (fun y z hz => ⟨fun _ _ => fun b e => (nomatch e), fun r e => pq_ok (fun _ => pq_pc (pq_pc ?_))⟩))
  obtain ⟨a1, a2, a3, a4, a5, a6, a7, a8, a9⟩ := ((hz r e).mIq (k := 5) (a := k0) (by decide)).mIq (k := 7) (a := 1) (by decide)
  have e7 : mI (xmI (xmI z r 5 k0) r 7 1) r 7 = 1 := h_mI
  generalize xmI (xmI z r 5 k0) r 7 1 = z2 at a1 a2 a3 a4 a5 a6 e7 ⊢
  rw [h0.cR, h0.pI] at a1 a7 a8 a9
  rw [h0.cR] at a2
  have o2 : (pI z2 (cR z2 2) 15).toInt = (ro : Int) := by rw [a2, a3, h0.pI]; exact ho
  have nr : 169 * cR w 2 + ro ≠ r := by omega
  unfold F_X3_join B_X3_join_0
  refine pq_bt (pq_ok (fun _ => pq_bc (pq_m h_name (fun x z3 hz3 => ?_))))
  obtain ⟨e3, hx⟩ := hz3
  have hx := hx (by omega) (by rw [a2] at o2 ⊢; omega)
  have nx : (pI z2 (cR z2 2) 15).toNatClampNeg = ro := n_of o2
  rw [nx, a2] at hx
  subst hx
  rw [e3]
  refine pq_ok (fun _ => pq_pc (pq_pc (pq_pc ?_)))
  have s5 : mI (xmI (xmI (xmI z2 r 9 (mI z2 (169 * cR w 2 + ro) 7)) (169 * cR w 2 + ro) 7 ((mI (xmI z2 r 9 (mI z2 (169 * cR w 2 + ro) 7)) (169 * cR w 2 + ro) 7) + (mI (xmI z2 r 9 (mI z2 (169 * cR w 2 + ro) 7)) r 7))) (169 * cR w 2 + ro) 12 ((mI (xmI (xmI z2 r 9 (mI z2 (169 * cR w 2 + ro) 7)) (169 * cR w 2 + ro) 7 ((mI (xmI z2 r 9 (mI z2 (169 * cR w 2 + ro) 7)) (169 * cR w 2 + ro) 7) + (mI (xmI z2 r 9 (mI z2 (169 * cR w 2 + ro) 7)) r 7))) (169 * cR w 2 + ro) 12) + 1)) r 2 = 5 := by
    rw [mI_ne (Or.inl (Ne.symm nr)), mI_ne (Or.inl (Ne.symm nr)), h_mI2 (by decide)]
    exact a5
  rw [if_pos s5]
  unfold B_X3_join_64
  have f7 : ∀ z4 : CSt, mI z4 r 7 = mI (xmI (xmI (xmI z2 r 9 (mI z2 (169 * cR w 2 + ro) 7)) (169 * cR w 2 + ro) 7 ((mI (xmI z2 r 9 (mI z2 (169 * cR w 2 + ro) 7)) (169 * cR w 2 + ro) 7) + (mI (xmI z2 r 9 (mI z2 (169 * cR w 2 + ro) 7)) r 7))) (169 * cR w 2 + ro) 12 ((mI (xmI (xmI z2 r 9 (mI z2 (169 * cR w 2 + ro) 7)) (169 * cR w 2 + ro) 7 ((mI (xmI z2 r 9 (mI z2 (169 * cR w 2 + ro) 7)) (169 * cR w 2 + ro) 7) + (mI (xmI z2 r 9 (mI z2 (169 * cR w 2 + ro) 7)) r 7))) (169 * cR w 2 + ro) 12) + 1)) r 7 → mI z4 r 7 = 1 := by
    intro z4 h4
    rw [h4, mI_ne (Or.inl (Ne.symm nr)), mI_ne (Or.inl (Ne.symm nr)), h_mI2 (by decide)]
    exact e7
  have f11 : mI (xmI (xmI (xmI z2 r 9 (mI z2 (169 * cR w 2 + ro) 7)) (169 * cR w 2 + ro) 7 ((mI (xmI z2 r 9 (mI z2 (169 * cR w 2 + ro) 7)) (169 * cR w 2 + ro) 7) + (mI (xmI z2 r 9 (mI z2 (169 * cR w 2 + ro) 7)) r 7))) (169 * cR w 2 + ro) 12 ((mI (xmI (xmI z2 r 9 (mI z2 (169 * cR w 2 + ro) 7)) (169 * cR w 2 + ro) 7 ((mI (xmI z2 r 9 (mI z2 (169 * cR w 2 + ro) 7)) (169 * cR w 2 + ro) 7) + (mI (xmI z2 r 9 (mI z2 (169 * cR w 2 + ro) 7)) r 7))) (169 * cR w 2 + ro) 12) + 1)) (169 * cR w 2 + ro) 11 = mI w (169 * cR w 2 + ro) 11 := by
    rw [h_mI2 (by decide), h_mI2 (by decide), mI_ne (Or.inl nr)]
    exact ((a4 _ 11 nr).1).trans (h0.mI _ 11)
  have p12 : (pI (xmI (xmI (xmI z2 r 9 (mI z2 (169 * cR w 2 + ro) 7)) (169 * cR w 2 + ro) 7 ((mI (xmI z2 r 9 (mI z2 (169 * cR w 2 + ro) 7)) (169 * cR w 2 + ro) 7) + (mI (xmI z2 r 9 (mI z2 (169 * cR w 2 + ro) 7)) r 7))) (169 * cR w 2 + ro) 12 ((mI (xmI (xmI z2 r 9 (mI z2 (169 * cR w 2 + ro) 7)) (169 * cR w 2 + ro) 7 ((mI (xmI z2 r 9 (mI z2 (169 * cR w 2 + ro) 7)) (169 * cR w 2 + ro) 7) + (mI (xmI z2 r 9 (mI z2 (169 * cR w 2 + ro) 7)) r 7))) (169 * cR w 2 + ro) 12) + 1)) (cR w 2) 12).toInt = (pI w (cR w 2) 12).toInt + 1 := a1
  generalize xmI (xmI (xmI z2 r 9 (mI z2 (169 * cR w 2 + ro) 7)) (169 * cR w 2 + ro) 7 ((mI (xmI z2 r 9 (mI z2 (169 * cR w 2 + ro) 7)) (169 * cR w 2 + ro) 7) + (mI (xmI z2 r 9 (mI z2 (169 * cR w 2 + ro) 7)) r 7))) (169 * cR w 2 + ro) 12 ((mI (xmI (xmI z2 r 9 (mI z2 (169 * cR w 2 + ro) 7)) (169 * cR w 2 + ro) 7 ((mI (xmI z2 r 9 (mI z2 (169 * cR w 2 + ro) 7)) (169 * cR w 2 + ro) 7) + (mI (xmI z2 r 9 (mI z2 (169 * cR w 2 + ro) 7)) r 7))) (169 * cR w 2 + ro) 12) + 1) = z5 at f7 f11 p12 ⊢
  refine pq_pc (pq_if (fun _ => pq_some ⟨(fun _ q => nomatch q), fun _ _ => pq_some (fun _ _ => ⟨r, a7, ?_, ?_, p12⟩)⟩) (fun _ => pq_refuse ⟨fun _ q => (fun b e => (by cases e)), fun _ q => nomatch q⟩))
  · refine f7 _ ?_
    rw [mI_ne (Or.inl (Ne.symm nr))]
  · rw [h_mI, f11]
end N6b
/-- where numbers lie, and the KIND of each (gk) -/
def GK0 (v : CSt) (q y : Nat) (gk : Nat → Int32) : Prop := mI v (169 * q + y) 2 = 0 → (mI v (169 * q + y) 6 = 0 ∨ mI v (169 * q + y) 6 = 1) → 0 ≤ (mI v (169 * q + y) 9).toInt ∧ (mI v (169 * q + y) 9).toInt + (mI v (169 * q + y) 7).toInt ≤ (cI v 12).toInt ∧ ∀ j : Nat, (j : Int) < (mI v (169 * q + y) 7).toInt → gk ((mI v (169 * q + y) 9).toNatClampNeg + j) = mI v (169 * q + y) 5
def GK1 (v : CSt) (q y : Nat) (gk : Nat → Int32) : Prop := mI v (169 * q + y) 2 = 1 → ∀ r : Nat, (mI v (169 * q + y) 14).toInt = (r : Int) → 0 ≤ (mI v (169 * q + y) 9).toInt ∧ (mI v (169 * q + y) 9).toInt + (mI v (169 * q + r) 7).toInt ≤ (cI v 12).toInt ∧ ∀ k : Nat, (k : Int) < (mI v (169 * q + r) 12).toInt → ∀ j : Nat, (j : Int) < (mI v (169 * q + (r + 1 + k)) 7).toInt → gk ((mI v (169 * q + y) 9).toNatClampNeg + (mI v (169 * q + (r + 1 + k)) 9).toNatClampNeg + j) = mI v (169 * q + (r + 1 + k)) 5
/-- a cell that a variable or an instance has -/
def CVq (v : CSt) (q c : Nat) : Prop := ∃ y : Nat, (y : Int) < (pI v q 12).toInt ∧ ((mI v (169 * q + y) 2 = 0 ∧ (mI v (169 * q + y) 6 = 0 ∨ mI v (169 * q + y) 6 = 1) ∧ (mI v (169 * q + y) 9).toInt ≤ (c : Int) ∧ (c : Int) < (mI v (169 * q + y) 9).toInt + (mI v (169 * q + y) 7).toInt) ∨ (mI v (169 * q + y) 2 = 1 ∧ ∃ r : Nat, (mI v (169 * q + y) 14).toInt = (r : Int) ∧ (mI v (169 * q + y) 9).toInt ≤ (c : Int) ∧ (c : Int) < (mI v (169 * q + y) 9).toInt + (mI v (169 * q + r) 7).toInt))
def GKq (v : CSt) (q : Nat) (gk : Nat → Int32) : Prop := (∀ y : Nat, (y : Int) < (pI v q 12).toInt → GK0 v q y gk ∧ GK1 v q y gk) ∧ ∀ c : Nat, (c : Int) < (cI v 12).toInt → CVq v q c
section N6c
variable {v w : CSt} {u : RSt} {q s T G : Nat} {gk gk' : Nat → Int32}
theorem GK_st (hTR : TR v u q s T G) (hT2 : TR2 v u q s T) (h : GKq v q gk) (hn : ∀ y k, y < T → mI w (169 * q + y) k = mI v (169 * q + y) k) (h12 : (cI v 12).toInt ≤ (cI w 12).toInt) (hgk : ∀ c : Nat, (c : Int) < (cI v 12).toInt → gk' c = gk c) (hw : ∀ y : Nat, T ≤ y → (y : Int) < (pI w q 12).toInt → GK0 w q y gk' ∧ GK1 w q y gk') (hpT : (T : Int) ≤ (pI w q 12).toInt) (hcv : ∀ c : Nat, (cI v 12).toInt ≤ (c : Int) → (c : Int) < (cI w 12).toInt → CVq w q c) : GKq w q gk' := by
  obtain ⟨t1, t2, t3, t4, t5, t5', t6, t7, t8, t9, t10, t11, t12, t13, t14, t15, t16, t17⟩ := hTR
  obtain ⟨s1, s2, s3, s4, s5, s6, s7⟩ := hT2
  refine ⟨fun y hy => ?_, fun c hc => ?_⟩
  rotate_left
  · by_cases c12 : (c : Int) < (cI v 12).toInt
    · obtain ⟨y, y1, y2⟩ := h.2 c c12
      have hyT : y < T := by omega
      refine ⟨y, by omega, ?_⟩
      rw [hn y 2 hyT, hn y 6 hyT, hn y 9 hyT, hn y 7 hyT, hn y 14 hyT]
      rcases y2 with z | ⟨z1, r, z2, z3, z4⟩
      · exact Or.inl z
      · obtain ⟨k0, r', k1, k2, k3, k4, -⟩ := t17 y hyT z1
        have er : r' = r := by omega
        subst er
        exact Or.inr ⟨z1, r', z2, z3, by rw [hn r' 7 k3]; exact z4⟩
    · exact hcv c (by omega) hc
  by_cases hyT : y < T
  · obtain ⟨g0, g1⟩ := h.1 y (by omega)
    refine ⟨fun h0 hh => ?_, fun h1 r hr => ?_⟩
    · rw [hn y 2 hyT] at h0
      rw [hn y 6 hyT] at hh
      obtain ⟨a1, a2, a3⟩ := g0 h0 hh
      rw [hn y 9 hyT, hn y 7 hyT, hn y 5 hyT]
      refine ⟨a1, by omega, fun j hj => ?_⟩
      have := nat_cl a1
      rw [hgk _ (by omega)]
      exact a3 j hj
    · rw [hn y 2 hyT] at h1
      rw [hn y 14 hyT] at hr
      obtain ⟨k0, r', k1, k2, k3, k4, k5, -⟩ := t17 y hyT h1
      have er : r' = r := by omega
      subst er
      obtain ⟨K, F, P, hR, -⟩ := t16 r' k3 (Or.inl k5)
      have hK := hR.2.2.2.1
      have hKT := hR.2.2.2.2.1
      obtain ⟨o1, -⟩ := OFF_all (s7 r' k3 (Or.inl k5) K hK)
      obtain ⟨a1, a2, a3⟩ := g1 h1 r' hr
      rw [hn y 9 hyT, hn r' 7 k3, hn r' 12 k3]
      refine ⟨a1, by omega, fun k hk j hj => ?_⟩
      have hkK : k < K := by omega
      rw [hn (r' + 1 + k) 7 (by omega)] at hj
      rw [hn (r' + 1 + k) 9 (by omega), hn (r' + 1 + k) 5 (by omega)]
      obtain ⟨d1, d2, d3⟩ := o1 k hkK
      have c1 := nat_cl a1
      have c2 := nat_cl d1
      rw [hgk _ (by omega)]
      exact a3 k hk j hj
  · exact hw y (by omega) hy
theorem GKq.inx (hT : (pI v q 12).toInt = (T : Int)) (h : GKq v q gk) : INX v q T := fun y hy h1 r hr => ⟨((h.1 y (by omega)).2 h1 r hr).1, ((h.1 y (by omega)).2 h1 r hr).2.1⟩
theorem GKq.fr (h : GKq v q gk) (hm : mI w = mI v) (h12 : cI w 12 = cI v 12) (hp : pI w q 12 = pI v q 12) : GKq w q gk := by
  unfold GKq GK0 GK1 CVq at h ⊢
  rw [hm, h12, hp]
  exact h
end N6c
/-! Items: variables, places in the images, instances, with where their numbers lie. -/
/-- numbers have places; the names told since there were T0 are variables and instances -/
def GKX (q T0 : Nat) (v : CSt) : Prop := (∃ gk, GKq v q gk) ∧ (T0 : Int) ≤ (pI v q 12).toInt ∧ ∀ y : Nat, T0 ≤ y → (y : Int) < (pI v q 12).toInt → mI v (169 * q + y) 2 = 0 ∨ mI v (169 * q + y) 2 = 1
def IGK (T0 : Nat) (ty : Nat → Int32) (q s n o : Nat) (v : CSt) (u : RSt) (i : Nat) : Prop := IG ty q s n o v u i ∧ GKX q T0 v
def IQK (T0 : Nat) (ty : Nat → Int32) (q s n j o : Nat) : Int32 → CSt → Int32 → RSt → Prop := fun _ w _ x => IGK T0 ty q s n o w x j ∧ j ≤ n
def IUK (T0 : Nat) (ty : Nat → Int32) (q s n o r : Nat) (b : Int32) (v : CSt) (u : RSt) (i : Nat) : Prop := IU ty q s n o r b v u i ∧ GKX q T0 v
section N7a
variable {v w : CSt} {u x : RSt} {q s T T0 G n i j o l N r : Nat} {e : E5} {c : R5} {kd how b : Int32} {ty : Nat → Int32} {gk : Nat → Int32}
theorem GKq.ce (h : GKq v q gk) (hc : CE v w i l e) : GKq w q gk := h.fr (funext (fun m => funext (fun k => hc.nm m k))) (hc.1.1 12 (by decide)) (hc.pi q (by decide))
theorem GKX.ce (h : GKX q T0 v) (hc : CE v w i l e) : GKX q T0 w := by
  obtain ⟨⟨gk, hg⟩, h1, h2⟩ := h
  refine ⟨⟨gk, hg.ce hc⟩, by rw [hc.pi q (by decide)]; exact h1, fun y a b => ?_⟩
  rw [hc.pi q (by decide)] at b
  rw [hc.nm]
  exact h2 y a b
theorem GKX.new (h : GKX q T0 v) (hT : (pI v q 12).toInt = (T : Int)) (hT' : (pI w q 12).toInt = (T : Int) + 1) (hn : ∀ y k, y < T → mI w (169 * q + y) k = mI v (169 * q + y) k) (h2 : mI w (169 * q + T) 2 = 0 ∨ mI w (169 * q + T) 2 = 1) (hg : ∃ gk, GKq w q gk) : GKX q T0 w := by
  obtain ⟨-, a1, a2⟩ := h
  refine ⟨hg, by omega, fun y b1 b2 => ?_⟩
  by_cases e : y = T
  · rw [e]; exact h2
  · rw [hn y 2 (by omega)]
    exact a2 y b1 (by omega)
theorem IGK_b : IVb ty n o (IGK T0 ty q s n o) := by
  refine ⟨fun v u i h => IG_b.1 v u i h.1, fun v u w x i j e c h hc h0 hr => ?_⟩
  exact ⟨IG_b.2 v u w x i j e c h.1 hc h0 hr, h.2.ce hc⟩
/-- one variable behind var, keep -/
theorem jc_oneG (hI : IGK T0 ty q s n o v u i) (hD : dVar ty i (.inr j)) (hi : i ≤ n) (ho : o < 24) (hkd : KD kd) (hhow : how = 0 ∨ how = 1) : jx (F_X3_oneVariable N 0 how kd v) (F_one N kd how 0 u) (fun _ w _ x => IGK T0 ty q s n o w x j ∧ j ≤ n) := by
  obtain ⟨⟨T, G, hIT, hO, rfl⟩, hGX⟩ := hI
  obtain ⟨⟨gk, hg⟩, -⟩ := id hGX
  refine jx_m (jx_fr (R := fun _ => True) (j_oneG hIT hO hD hi ho hkd hhow) (fun b w e => E_one _ _ e b rfl) (fun _ _ _ => trivial)) ?_
  rintro b w r x ⟨⟨hw, hjn⟩, ⟨m, hm, e9, e12, e6⟩, -⟩
  refine ⟨⟨hw, ?_⟩, hjn⟩
  obtain ⟨T', G', hIT', -, -⟩ := hw
  have t1 := hIT.2.2.2.2.1.1
  have t9 := hIT.2.2.2.2.1.2.2.2.2.2.2.2.2.2.1
  have t1' := hIT'.2.2.2.2.1.1
  obtain ⟨a1, a2, a3, a4, a5, a6, a7, a8, a9⟩ := hm
  have a1 : (pI w (cR v 2) 12).toInt = (pI v (cR v 2) 12).toInt + 1 := a1
  rw [t9] at a1 a7 a8 a9
  have a5 : mI w m 2 = 0 := a5
  have em : m = 169 * q + T := by rw [a7, t1]; rfl
  subst em
  have p1 := hIT'.2.2.2.2.2.2.2.2.1 T (by omega) a5
  have nu := NUM_le hIT.2.2.2.2.2.2.2.1
  have z12 : (cI w 12).toInt = (cI v 12).toInt + (mI w (169 * q + T) 7).toInt := by
    have s1 := p1.1
    have s2 := p1.2.1
    rw [e12, tI_add (by omega) (by omega)]
  refine hGX.new t1 (by rw [a1, t1]) (fun y k hy => (a4 (169 * q + y) k (by omega)).1) (Or.inl a5) ⟨fun c => if (cI v 12).toInt ≤ (c : Int) then mI w (169 * q + T) 5 else gk c, GK_st hIT.2.2.2.2.1 hIT.2.2.2.2.2 hg (fun y k hy => (a4 (169 * q + y) k (by omega)).1) (by have := p1.1; omega) (fun c hc => if_neg (by omega)) (fun y h1 h2 => ?_) (by omega) (fun c h1 h2 => ⟨T, by omega, Or.inl ⟨a5, by rw [e6]; exact hhow, by rw [e9]; exact h1, by rw [e9]; omega⟩⟩)⟩
  have ey : y = T := by omega
  subst ey
  refine ⟨fun _ _ => ⟨by rw [e9]; exact nu.1, by rw [e9]; omega, fun j hj => if_pos ?_⟩, fun z => ?_⟩
  · rw [e9]
    have := nat_cl nu.1
    omega
  · rw [a5] at z
    exact absurd z (by decide)
/-- var, keep -/
theorem jc_vars (hI : IGK T0 ty q s n o v u i) (hD : dVars ty i (.inr j)) (hi : i < n) (ho : o < 24) (hhow : how = 0 ∨ how = 1) (hc : CE v w (i + 1) 0 (eC v)) : jx (F_X3_variables N 0 how w) (F_variables N how 0 u) (IQK T0 ty q s n j o) :=
  j_varsK IGK_b (fun kd hkd v u i j hI hD hi => jc_oneG hI hD hi ho hkd hhow) hI hD hi hc
/-- in, out -/
theorem jc_placed (hI : IGK T0 ty q s n o v u i) (hD : dPlc ty i (.inr j)) (hi : i < n) (hhow : how = 2 ∨ how = 3) (hc : CE v w (i + 1) 0 (eC v)) : jx (F_X3_placed N how w) (F_image N how u) (IQK T0 ty q s n j o) := by
  obtain ⟨hI0, hGX⟩ := hI
  obtain ⟨⟨gk, hg⟩, -⟩ := id hGX
  obtain ⟨T, G, hIT, hO, rfl⟩ := id hI0
  refine jx_m (jx_fr (R := fun _ => True) (j_placed hI0 hD hi hhow hc) (fun b z e => E_plc _ _ e b rfl) (fun _ _ _ => trivial)) ?_
  rintro b z r x ⟨⟨hw, hjn⟩, ⟨m, hm, e6⟩, -⟩
  have t1 := hIT.2.2.2.2.1.1
  have t9 := hIT.2.2.2.2.1.2.2.2.2.2.2.2.2.2.1
  obtain ⟨a1, a2, a3, a4, a5, a6, a7, a8, a9⟩ := hm
  rw [hc.rf, hc.pi _ (by decide), t9] at a1 a7
  have em : m = 169 * q + T := by rw [a7, t1]; rfl
  subst em
  refine ⟨⟨hw, hGX.new t1 (by rw [a1, t1]) (fun y k hy => ((a4 (169 * q + y) k (by omega)).1).trans (hc.nm _ k)) (Or.inl a5) ⟨gk, GK_st hIT.2.2.2.2.1 hIT.2.2.2.2.2 hg (fun y k hy => ((a4 (169 * q + y) k (by omega)).1).trans (hc.nm _ k)) (by rw [a6, hc.1.1 12 (by decide)]; exact Int.le_refl _) (fun _ _ => rfl) (fun y h1 h2 => ?_) (by rw [a1, t1]; omega) (fun c h1 h2 => by rw [a6, hc.1.1 12 (by decide)] at h2; omega)⟩⟩, hjn⟩
  have ey : y = T := by omega
  subst ey
  refine ⟨fun _ y6 => ?_, fun y2 => ?_⟩
  · rw [e6] at y6
    rcases hhow with z | z <;> (rw [z] at y6; rcases y6 with y6 | y6 <;> exact absurd y6 (by decide))
  · rw [a5] at y2
    exact absurd y2 (by decide)
theorem jc_inst (hI : IU ty q s n o r b v u i) (ht : ty i = 128) (hi : i ≤ n) : jx (F_X3_oneUse N (169 * q + r) v) (F_instance N b u) (fun _ w _ x => (IU ty q s n o r b w x (i + 1) ∧ i + 1 ≤ n) ∧ (cI w 12).toInt = (cI v 12).toInt + (mI v (169 * q + r) 7).toInt) := by
  obtain ⟨T, G, hIT, hO, rfl, hrT, h3, hb⟩ := hI
  obtain ⟨hV, h, h', h16, hTR, hT2⟩ := id hIT
  obtain ⟨t1, t2, t3, t4, t5, t5', t6, t7, t8, t9, t10, t11, t12, t13, t14, t15, t16, t17⟩ := id hTR
  obtain ⟨s1, s2, s3, s4, s5, s6, s7⟩ := id hT2
  obtain ⟨c0, c1, c2, c3, c4, c5, c6, c7, c8, c9, c10⟩ := id s2
  have hil : i < n := hV.lt hi (by rw [ht]; exact nEnd (by decide) (by decide) (by decide))
  have hj := hV.2.2.2.2.1
  have e24 : (24 : Int32).toInt = 24 := by decide
  have b1 : (bt_1.getD 1 0).toInt = 24 := by decide
  have k42 : (u.2.2.1 42 s).toInt = ((u.2.2.1 42 s).toInt.toNat : Nat) := by omega
  obtain ⟨K, F, P, hR, -⟩ := t16 r hrT (Or.inl h3)
  obtain ⟨f, f5, f6, f7, f8⟩ := s7 r hrT (Or.inl h3) K hR.2.2.2.1
  unfold F_X3_oneUse B_X3_oneUse_0 F_instance B_instance_0
  refine k2_here h ?_
  refine jx_r (y_is hV.2.1 (t := 128) (by decide +kernel) h' hi (fun _ => ?_) (fun y => absurd ht y))
  rw [if_neg (by decide)]
  refine pp_rd (pp_rd ?_)
  rw [n_of t6]
  have main : ∀ l3 : Int32, (l3 = 0 ↔ ¬ u.2.2.1 42 s = 24) → jx (bt (F_X3_newName N 1 v) fun r_11 u_10 => ok (r_11 < 338) inferInstance <| pc (xmI u_10 r_11 14 (mI u_10 (169 * q + r) 3)) fun u_14 => pc (xmI u_14 r_11 9 (cI u_14 12)) fun u_15 => LP_X3_oneUse_33 N N (169 * q + r, cA v 204 i, 0, u_15)) (B_instance_43 N b 1 (u.2.2.1 42 s) l3 u) (fun _ w _ x => (IU (tyF v) q s n o r b w x (i + 1) ∧ i + 1 ≤ n) ∧ (cI w 12).toInt = (cI v 12).toInt + (mI v (169 * q + r) 7).toInt) := by
    intro l3 hl3
    unfold B_instance_43
    refine j_newG (so := 1) (sn := 1) (k0 := (u.2.2.1 42 s).toInt.toNat) hV hTR h h' hil ht (by decide) (by omega) (by rw [c1]; exact k42) (by omega) (fun _ => ?_) (fun w x hT hk f1 f2 hN hC hX => ?_) (fun _ _ => sk_LP_instance_50 _ _)
    · rw [hl3, b1, tI_eq, e24]
      omega
    · rw [b1] at hk
      refine pq_ok (fun _ => pq_pc (pq_pc ?_))
      have hr0 : RE x x i o 0 (eR u) := TLr_re hX h'
      have x69 : ¬ x.1 69 = 0 := by rw [hX.1 69 (by decide)]; exact hj
      have rT : ¬ r = T := by omega
      have nn : ∀ y, ¬ y = T → ∀ k, mI (xmI (xmI w (169 * q + T) 14 (mI w (169 * q + r) 3)) (169 * q + T) 9 (cI w 12)) (169 * q + y) k = mI v (169 * q + y) k := fun y hy k => by
        rw [mI_ne (Or.inl (by omega)), mI_ne (Or.inl (by omega))]
        exact hN.2.2.2.2.2.2.2.2.2.1 _ k (by omega)
      have ll : ∀ y, ¬ y = T → ∀ k, mL (xmI (xmI w (169 * q + T) 14 (mI w (169 * q + r) 3)) (169 * q + T) 9 (cI w 12)) (169 * q + y) k = mL v (169 * q + y) k := fun y hy k => hN.2.2.2.2.2.2.2.2.2.2.1 _ k (by omega)
      have hRx : RRr (xmI (xmI w (169 * q + T) 14 (mI w (169 * q + r) 3)) (169 * q + T) 9 (cI w 12)) x q s (T + 1) r K F P := by
        have a9 := hR.2.2.2.2.2.2.2.2.1
        have a5 := hR.2.2.2.2.1
        exact RRr_tr hR (fun y h1 h2 => ⟨fun k _ => nn y (by omega) k, fun k => ll y (by omega) k⟩) (fun d hd => by rw [hX.2.2.1 d (fun z => by simp only [List.mem_cons, List.not_mem_nil, or_false] at hd z; omega)]) (RSx_f (TLr_fx hX) (by decide) (by decide) a9) (by omega)
      have w12 : cI (xmI (xmI w (169 * q + T) 14 (mI w (169 * q + r) 3)) (169 * q + T) 9 (cI w 12)) 12 = cI v 12 := hN.1 12 (by decide)
      have w228 : cA (xmI (xmI w (169 * q + T) 14 (mI w (169 * q + r) 3)) (169 * q + T) 9 (cI w 12)) 228 = cA v 228 := hN.2.1 228 (by decide)
      have wR2 : cR (xmI (xmI w (169 * q + T) 14 (mI w (169 * q + r) 3)) (169 * q + T) 9 (cI w 12)) 2 = q := by
        show w.2.2.2.2.2.2.2.2.2.2 2 = q
        rw [hN.2.2.2.2.2.2.2.2.1]
        exact t9
      refine j_instT (f := f) (T := T + 1) (s := s) x69 hr0 ?_ wR2 (by rw [nn r rT]; exact (t11 r hrT).1) hN.2.2.2.2.1 (by omega) hRx (by rw [nn r rT]; exact h3) (by rw [nn r rT]; exact hb) (by rw [hX.1 56 (by decide)]; exact t6) t7 (fun j hj => ?_) (fun w3 x2 y hL hnu hsum hfK hLX hA => ?_) K 0 _ _ N N (by omega) ⟨fun _ _ => rfl, rfl, fun _ _ => rfl, rfl⟩ (fun k hk => ?_) ?_ ?_ ⟨rfl, rfl, fun _ _ => rfl, rfl⟩
      · rw [hX.2.2.1 3 (by decide)]
        exact hV.pl hi
      · have a5 := hR.2.2.2.2.1
        rw [nn (r + 1 + j) (by omega)]
        exact (f8 j hj).2
      · rw [w12, f6] at hfK
        exact ⟨⟨IT_inst hIT hO hT k42 (by omega) ((hV.2.2.1 i hil).2.2.2.2 ht) f1 f2 hN hX hrT h3 hb hL hnu hsum hfK hLX hA hC hr0, hil⟩, hfK⟩
      · rw [show cI (xmI w (169 * q + T) 14 (mI w (169 * q + r) 3)) 12 = cI w 12 from rfl, w228, hX.2.2.1 64 (by decide)]
        exact s3.1 k hk
      · rw [show cI (xmI w (169 * q + T) 14 (mI w (169 * q + r) 3)) 12 = cI w 12 from rfl, w12, w228]
        exact s3.2.2
      · rw [show cI (xmI w (169 * q + T) 14 (mI w (169 * q + r) 3)) 12 = cI w 12 from rfl, f5]
        omega
  by_cases y : u.2.2.1 42 s = 24
  · rw [if_pos y]
    exact jx_l (main 1 ⟨fun z => absurd z (by decide), fun z => absurd y z⟩)
  · rw [if_neg y]
    exact jx_l (main 0 ⟨fun _ => y, fun _ => rfl⟩)
theorem IUK_e (hI : IUK T0 ty q s n o r b v u i) : EV1 v u n ∧ CE v v i 0 (eC v) ∧ (eC v).1 = 0 ∧ RE u u i o 0 (eR u) ∧ tyF v = ty := IU_e hI.1
theorem IUK_mv {o2 : Nat} (h : IUK T0 ty q s n o r b v u i) (hc : CE v w j 0 e) (h0 : e.1 = 0) (hr : RE u x j o2 0 c) : IUK T0 ty q s n o2 r b w x j := by
  exact ⟨IU_mv h.1 hc h0 hr, h.2.ce hc⟩
theorem IUK.ig (h : IUK T0 ty q s n o r b v u i) : IGK T0 ty q s n o v u i := ⟨h.1.ig, h.2⟩
/-- one instance, with where its numbers lie -/
theorem jk_inst (hI : IUK T0 ty q s n o r b v u i) (ht : ty i = 128) (hi : i ≤ n) : jx (F_X3_oneUse N (169 * q + r) v) (F_instance N b u) (fun _ w _ x => IUK T0 ty q s n o r b w x (i + 1) ∧ i + 1 ≤ n) := by
  obtain ⟨h1, hGX⟩ := hI
  obtain ⟨⟨gk, hg⟩, -⟩ := id hGX
  obtain ⟨T, G, hIT, hO, hty, hrT, h3, hb⟩ := id h1
  have t1 := hIT.2.2.2.2.1.1
  have t9 := hIT.2.2.2.2.1.2.2.2.2.2.2.2.2.2.1
  have t11 := hIT.2.2.2.2.1.2.2.2.2.2.2.2.2.2.2.2.1
  obtain ⟨K, F, P, hR, -⟩ := hIT.2.2.2.2.1.2.2.2.2.2.2.2.2.2.2.2.2.2.2.2.2.1 r hrT (Or.inl h3)
  have hK := hR.2.2.2.1
  have hKT := hR.2.2.2.2.1
  have hOF := hIT.2.2.2.2.2.2.2.2.2.2.2 r hrT (Or.inl h3) K hK
  obtain ⟨o1, o2, o3, o4, -⟩ := OFF_all hOF
  refine jx_m (jx_fr (R := fun _ => True) (jc_inst h1 ht hi) (fun b w e => E_use (by rw [t9, t1]; show _ < 169 * q + T; omega) _ _ e b rfl) (fun _ _ _ => trivial)) ?_
  rintro b' w r' x ⟨⟨⟨hw, hjn⟩, e12⟩, ⟨m, hm, e9, e14⟩, -⟩
  refine ⟨⟨hw, ?_⟩, hjn⟩
  obtain ⟨a1, a2, a3, a4, a5, a6, a7, a8, a9⟩ := hm
  have a1 : (pI w (cR v 2) 12).toInt = (pI v (cR v 2) 12).toInt + 1 := a1
  rw [t9] at a1 a7
  have a5 : mI w m 2 = 1 := a5
  have em : m = 169 * q + T := by rw [a7, t1]; rfl
  subst em
  have nm : ∀ y k, y < T → mI w (169 * q + y) k = mI v (169 * q + y) k := fun y k hy => (a4 (169 * q + y) k (by omega)).1
  have nu := NUM_le hIT.2.2.2.2.2.2.2.1
  have c9 := nat_cl nu.1
  refine hGX.new t1 (by rw [a1, t1]) nm (Or.inr a5) ⟨fun c => if (cI v 12).toInt ≤ (c : Int) then fkq v q r K (c - (cI v 12).toNatClampNeg) else gk c, GK_st hIT.2.2.2.2.1 hIT.2.2.2.2.2 hg nm (by omega) (fun c hc => if_neg (by omega)) (fun y h1 h2 => ?_) (by omega) (fun c h1 h2 => ⟨T, by omega, Or.inr ⟨a5, r, by rw [e14]; exact (t11 r hrT).1, by rw [e9]; exact h1, by rw [e9, nm r 7 hrT]; omega⟩⟩)⟩
  have ey : y = T := by omega
  subst ey
  refine ⟨fun z => ?_, fun _ r2 hr2 => ?_⟩
  · rw [a5] at z
    exact absurd z (by decide)
  · have er : r2 = r := by
      rw [e14] at hr2
      have := (t11 r hrT).1
      omega
    subst er
    rw [nm r2 7 hrT, nm r2 12 hrT, e9]
    refine ⟨nu.1, by omega, fun k hk j hj => ?_⟩
    have hkK : k < K := by omega
    rw [nm (r2 + 1 + k) 7 (by omega)] at hj
    rw [nm (r2 + 1 + k) 9 (by omega), nm (r2 + 1 + k) 5 (by omega)]
    obtain ⟨d1, d2, d3⟩ := o1 k hkK
    have c1 := nat_cl d1
    refine Eq.trans (if_pos (by omega)) ?_
    exact fkq_at hOF hkK (by omega) (by omega)
theorem jc_usesT : ∀ d i j k v u M M', oWn (fun i => ty i = 44) (oN (oT ty 128)) (oT ty 59) d i (.inr j) → IUK T0 ty q s n o r b v u i → i ≤ n → k ≤ i → jx (LP_X3_uses_45 N M (169 * q + r, Int32.ofNat k, v)) (LP_use_68 N M' (b, u)) (IQK T0 ty q s n j o) := by
  have e15 : (1500 : Int32).toInt = 1500 := by decide
  intro d
  induction d with
  | zero =>
    rintro i j k v u M M' ⟨z, hD⟩ hI hi hk
    obtain ⟨hV, h, h0, h', hty⟩ := IUK_e hI
    have z : ¬ ty i = 44 := z
    obtain ⟨t1, rfl⟩ := oT_r hD
    rw [← hty] at z t1
    have hil := hV.lt hi (by rw [t1]; exact nEnd (by decide) (by decide) (by decide))
    cases M with
    | zero => exact jx_n1 rfl
    | succ M =>
      cases M' with
      | zero => exact jx_n2 rfl
      | succ M' =>
        show jx (B_X3_uses_45 N (LP_X3_uses_45 N M) (169 * q + r) (Int32.ofNat k) v) (B_use_68 N (LP_use_68 N M') b u) _
        unfold B_X3_uses_45 B_use_68
        have fin : jx (B_X3_uses_82 N v) (bn (F_has N 230 u) fun r_2 u_1 => if r_2 = (0 : Int32) then (bn (F_take N 229 u_1) fun _ u_4 => some (0, u_4)) else (bn (F_instance N b u_1) fun _ u_5 => LP_use_68 N M' (b, u_5))) (IQK T0 ty q s n (i + 1) o) := by
          unfold B_X3_uses_82
          refine k2_next hV.1 h hil (fun w1 g1 => ?_)
          refine jx_r (y_has hV.2.1 (t := 44) (by decide +kernel) (nEnd (by decide) (by decide) (by decide)) h' hi (fun y => absurd y z) (fun _ => ?_))
          rw [if_pos rfl]
          refine y_take hV.2.1 (t := 59) (by decide +kernel) h' hil t1 (fun x1 r1 => ?_)
          exact pp_some (pq_some (Or.inr ⟨0, rfl, (IUK_mv hI g1 h0 r1).ig, hil⟩))
        exact pq_if (fun _ => fin) (fun _ => k2_if h (fun y => absurd y z) (fun _ => fin))
  | succ d ih =>
    rintro i j k v u M M' ⟨z, hD⟩ hI hi hk
    obtain ⟨hV, h, h0, h', hty⟩ := IUK_e hI
    have z : ty i = 44 := z
    obtain ⟨k1, p1, p2⟩ := oS_r hD
    obtain ⟨t128, rfl⟩ := oT_r (show oT ty 128 (i + 1) (.inr k1) from p1)
    have z2 : tyF v i = 44 := by rw [hty]; exact z
    have hn2 := hV.2.1.2.2
    have hil := hV.lt hi (by rw [z2]; exact nEnd (by decide) (by decide) (by decide))
    have ki := ofN_i (k := k) (by omega)
    cases M with
    | zero => exact jx_n1 rfl
    | succ M =>
      cases M' with
      | zero => exact jx_n2 rfl
      | succ M' =>
        show jx (B_X3_uses_45 N (LP_X3_uses_45 N M) (169 * q + r) (Int32.ofNat k) v) (B_use_68 N (LP_use_68 N M') b u) _
        unfold B_X3_uses_45 B_use_68
        rw [if_neg (fun y => by have := Int32.le_iff_toInt_le.mp y; rw [e15] at this; omega)]
        refine k2_if h (fun _ => ?_) (fun y => absurd z2 y)
        refine k2_next hV.1 h hil (fun w1 g1 => ?_)
        refine jx_r (y_has hV.2.1 (t := 44) (by decide +kernel) (nEnd (by decide) (by decide) (by decide)) h' hi (fun _ _ x1 r1 => ?_) (fun y => absurd z2 y))
        rw [if_neg (by decide)]
        refine jx_l ?_
        refine jx_bt (jk_inst (IUK_mv hI g1 h0 r1) t128 hil) ?_ (fun _ _ => sk_LP_use_68 _ _)
        rintro b2 w r2 x ⟨hI2, hk1⟩
        rw [ofN1 (by omega)]
        exact ih (i + 1 + 1) j (k + 1) w x M M' p2 hI2 hk1 (by omega)
theorem jc_uses (hI : IGK T0 ty q s n o v u i) (hD : dUse ty i (.inr j)) (hi : i < n) (hc : CE v w (i + 1) 0 (eC v)) : jx (F_X3_uses N w) (F_use N u) (IQK T0 ty q s n j o) := by
  obtain ⟨⟨T, G, hIT, hO, rfl⟩, hGX⟩ := hI
  obtain ⟨hV, h, h', h16, hTR, hT2⟩ := id hIT
  have hn2 := hV.2.1.2.2
  obtain ⟨k1, p1, p2⟩ := oS_r (show oS (oT (tyF v) 128) (oS (oT (tyF v) 128) (oW (fun i => tyF v i = 44) (oN (oT (tyF v) 128)) (oT (tyF v) 59))) (i + 1) (.inr j) from hD)
  obtain ⟨t1, rfl⟩ := oT_r p1
  obtain ⟨k2, p3, d, p4⟩ := oS_r p2
  obtain ⟨t2, rfl⟩ := oT_r p3
  have hi1 : i + 1 < n := hV.lt (i := i + 1) hi (by rw [t1]; exact nEnd (by decide) (by decide) (by decide))
  have hi2 : i + 1 + 1 < n := hV.lt (i := i + 1 + 1) hi1 (by rw [t2]; exact nEnd (by decide) (by decide) (by decide))
  have hj := hV.2.2.2.2.1
  obtain ⟨m, g, hK, hW, hM⟩ := kn0 hV hTR hO hi1 t1
  unfold F_X3_uses B_X3_uses_0 F_use B_use_0
  refine pq_bc (pq_m (hK N w _ _ hc) (fun y z hz => ?_))
  rw [hz.1, hz.2]
  refine pq_ok (fun _ => ?_)
  rw [hc.nm]
  refine jx_r (y_adv h' (by omega) (fun x1 r1 => ?_))
  refine y_is hV.2.1 (t := 128) (by decide +kernel) r1 hi (fun _ => ?_) (fun y => absurd t1 y)
  rw [if_neg (by decide)]
  refine pp_bn (pp_m (hW N x1 _ _ _ r1) (fun y z hz => ?_))
  rw [hz.1, hz.2]
  refine jx_l ?_
  rcases hM with ⟨r, z1, z2, z3, z4, z5⟩ | ⟨z1, z2⟩
  · rw [if_pos z3, if_neg z5]
    unfold B_X3_uses_31 B_use_40
    refine k2_next hV.1 hc hi1 (fun w2 g2 => ?_)
    refine jx_r (y_rA r1 (by decide) (y_ok rfl (y_adv r1 (by omega) (fun x2 r2 => jx_l ?_))))
    subst z2
    have hIU : IU (tyF v) q s n o r g w2 x2 (i + 1 + 1) := by
      refine ⟨T, G, IT_mv hIT g2 h16 r2, OWN0_mv hO g2 r2, tkC_ty (cfT_tk (M := []) (cfT_c g2.1)), z1, ?_, ?_⟩
      · rw [g2.nm]; exact z3
      · rw [g2.nm]; exact z4
    have hIK : IUK T0 (tyF v) q s n o r g w2 x2 (i + 1 + 1) := ⟨hIU, hGX.ce g2⟩
    refine jx_bt (jk_inst hIK t2 hi1) ?_ (fun _ _ => sk_LP_use_68 _ _)
    rintro b2 w3 r3 x3 ⟨hI2, hk1⟩
    exact jc_usesT d (i + 1 + 1 + 1) j 0 w3 x3 N N p4 hI2 hk1 (Nat.zero_le _)
  · rw [if_neg z1, if_pos z2]
    refine k2_here hc (jx_ref ?_)
    unfold B_use_40
    refine y_rA r1 (by decide) ?_
    rw [hV.pl (Nat.le_of_lt hi1)]
    exact y_bad hj r1 (by decide) (by decide) (fun _ _ => by repeat' (first | exact KP_some kp_rf | with_reducible refine KP_bn ?_ (fun _ _ => ?_) | with_reducible refine KP_if ?_ ?_ | with_reducible refine KP_rd (fun _ => ?_) | with_reducible refine KP_zr ?_ | (with_reducible refine KP_pu2 ?_ ?_; first | exact ks_sI (by decide) kp_rf | exact ks_sL kp_rf | exact ks_sA (by decide) kp_rf | exact ks_sB (by decide) kp_rf) | (with_reducible refine KP_wr2 ?_ ?_; first | exact ks_sA (by decide) kp_rf | exact ks_sB (by decide) kp_rf) | with_reducible exact h_ro _ _ _ _ | with_reducible exact sk_F_is | with_reducible exact sk_F_take | with_reducible exact sk_F_emit | with_reducible exact sk_F_wrong | with_reducible exact sk_F_cost | with_reducible exact sk_F_stuck | with_reducible exact sk_F_ends | with_reducible exact sk_F_begins | with_reducible exact sk_F_opens | with_reducible exact sk_F_has | with_reducible exact sk_F_isNumber | with_reducible exact sk_F_isNext | with_reducible exact sk_F_push | with_reducible exact sk_F_lead | with_reducible exact sk_F_here | with_reducible exact sk_F_kind | with_reducible exact sk_F_isKind | with_reducible exact sk_F_own | with_reducible exact sk_F_constant | with_reducible exact sk_F_bounded | with_reducible exact sk_F_joined | with_reducible exact sk_F_strength | with_reducible exact sk_F_leadAll | with_reducible exact sk_F_loop | with_reducible exact sk_F_label | with_reducible exact sk_F_leaves | with_reducible exact sk_F_telling | with_reducible exact sk_F_local | with_reducible exact sk_F_addSlot | with_reducible exact sk_F_addVariable | with_reducible exact sk_F_isTooWide | with_reducible exact sk_F_named | with_reducible exact sk_F_slotOf | with_reducible exact sk_F_bad | with_reducible exact sk_G_expression | with_reducible exact sk_G_spot | with_reducible exact sk_G_body | with_reducible exact sk_G_stat | (with_reducible refine sk_B_use_68 ?_ <;> assumption) | with_reducible exact sk_LP_use_68 _ _ | with_reducible exact sk_B_use_40 | with_reducible exact sk_B_use_0 | with_reducible exact sk_F_use | (with_reducible refine sk_B_instance_158 ?_ <;> assumption) | (with_reducible refine sk_B_instance_153 ?_ <;> assumption) | with_reducible exact sk_B_instance_303 | with_reducible exact sk_B_instance_165 | (with_reducible refine sk_B_instance_50 ?_ <;> assumption) | with_reducible exact sk_LP_instance_50 _ _ | with_reducible exact sk_B_instance_43 | with_reducible exact sk_B_instance_0 | with_reducible exact sk_F_instance))
end N7a
/-! Items with the code told: blocks and functions, from their NAME on. -/
section N8q
variable {u v w : CSt} {N : Nat} {l1 l2 l3 l4 : Int32}
theorem q_one (h : ¬ l1 = 0) : K12 (F_X3_oneVariable N l1 l2 l3 w) w := by
  have b112 : ∀ (a : Int32) (m : Nat) (z : CSt), q12 w z → pq (B_X3_oneVariable_112 N l1 l3 a m z) (fun _ z => q12 w z) := by
    intro a m z hz
    unfold B_X3_oneVariable_112
    rw [if_neg h]
    exact pq_bt (pq_m n12_F_X3_join.p (fun y z2 h2 => ⟨fun _ _ => q12_tr hz h2, fun _ _ => pq_some (q12_tr hz h2)⟩))
  have b83 : ∀ (a : Int32) (m : Nat) (z : CSt), q12 w z → pq (B_X3_oneVariable_83 N l1 l3 a m z) (fun _ z => q12 w z) := by
    intro a m z hz
    unfold B_X3_oneVariable_83
    refine pq_bc (pq_m n12_F_X9_is.p (fun _ z1 h1 => pq_if (fun _ => b112 _ _ _ (q12_tr hz h1)) (fun _ => pq_bc (pq_m n12_F_X9_next.p (fun _ z2 h2 => ?_)))))
    exact pq_bt (pq_m n12_F_X3_constant.p (fun y z3 h3 => ⟨fun _ _ => q12_tr (q12_tr (q12_tr hz h1) h2) h3, fun _ _ => pq_pc (b112 _ _ _ (f12_xmL (q12_tr (q12_tr (q12_tr hz h1) h2) h3)))⟩))
  have : pq (F_X3_oneVariable N l1 l2 l3 w) (fun _ z' => q12 w z') := by
    unfold F_X3_oneVariable B_X3_oneVariable_0
    refine pq_bc (pq_m n12_F_X9_here.p (fun _ z1 h1 => pq_bt (pq_m n12_F_X3_newName.p (fun y z2 h2 => ⟨fun _ _ => q12_tr h1 h2, fun r _ => pq_ok (fun _ => pq_pc (pq_pc (pq_pc ?_)))⟩))))
    have k0 : q12 w (xmI (xmI (xmI z2 r 6 l2) r 5 l3) r 7 1) := f12_xmI (f12_xmI (f12_xmI (q12_tr h1 h2)))
    refine pq_bc (pq_m n12_F_X9_is.p (fun _ z3 h3 => pq_if (fun _ => b83 _ _ _ (q12_tr k0 h3)) (fun _ => pq_bc (pq_m n12_F_X9_next.p (fun _ z4 h4 => pq_pc ?_)))))
    have k1 : q12 w (xmI z4 r 8 1) := f12_xmI (q12_tr (q12_tr k0 h3) h4)
    exact pq_bt (pq_m n12_F_X9_takeBounded.p (fun y z5 h5 => ⟨fun _ _ => q12_tr k1 h5, fun _ _ => pq_pc (pq_bc (pq_m n12_F_X9_next.p (fun _ z6 h6 => b83 _ _ _ (q12_tr (f12_xmI (q12_tr k1 h5)) h6))))⟩))
  exact this
theorem q_varL : ∀ (M : Nat) (l1 l2 l3 l4 : Int32) (w : CSt), ¬ l1 = 0 → K12 (LP_X3_variables_18 N M (l1, l2, l3, l4, w)) w := by
  intro M
  induction M with
  | zero => intro l1 l2 l3 l4 w _ r z e; cases e
  | succ M ih =>
    intro l1 l2 l3 l4 w h
    have b58 : ∀ z, q12 w z → pq (B_X3_variables_58 N z) (fun _ z' => q12 w z') := by
      intro z hz
      unfold B_X3_variables_58
      exact pq_bc (pq_m n12_F_X9_next.p (fun _ z2 h2 => pq_some (q12_tr hz h2)))
    show pq (B_X3_variables_18 N (LP_X3_variables_18 N M) l1 l2 l3 l4 w) (fun _ z' => q12 w z')
    unfold B_X3_variables_18
    refine pq_if (fun _ => b58 _ q12_rf) (fun _ => pq_bc (pq_m n12_F_X9_is.p (fun _ z1 h1 => pq_if (fun _ => b58 _ h1) (fun _ => pq_bc (pq_m n12_F_X9_next.p (fun _ z2 h2 => ?_))))))
    exact pq_bt (pq_m (q_one h).p (fun y z3 h3 => ⟨fun _ _ => q12_tr (q12_tr h1 h2) h3, fun _ _ => pq_m (ih l1 l2 l3 (l4 + 1) z3 h).p (fun _ z4 h4 => q12_tr (q12_tr (q12_tr h1 h2) h3) h4)⟩))
theorem q_vars (h : ¬ l1 = 0) : K12 (F_X3_variables N l1 l2 w) w := by
  have : pq (F_X3_variables N l1 l2 w) (fun _ z' => q12 w z') := by
    unfold F_X3_variables B_X3_variables_0
    exact pq_bc (pq_m n12_F_X9_takeKind.p (fun r z1 h1 => pq_bt (pq_m (q_one h).p (fun y z2 h2 => ⟨fun _ _ => q12_tr h1 h2, fun _ _ => pq_m (q_varL N l1 l2 r 0 z2 h).p (fun _ z3 h3 => q12_tr (q12_tr h1 h2) h3)⟩))))
  exact this
end N8q
/-- parameters have the size 1 -/
def PSr (v : CSt) (q r : Nat) : Prop := ∀ i : Nat, (i : Int) < (mI v (169 * q + r) 11).toInt → mI v (169 * q + (r + 1 + i)) 7 = 1
/-- the eight's numbers -/
def OP8 (v : CSt) (q : Nat) : Prop := ∀ k, k < 8 → mI v (169 * q + (160 + k)) 4 = op8 (Int32.ofNat k)
/-- the names told before, and those from 160 on -/
def S0q (T0 : Nat) : Nat → Nat → Prop := fun m _ => m % 169 < T0 ∨ 160 ≤ m % 169
/-- .. and what stays of those of an open routine -/
def S1q (T ow : Nat) : Nat → Nat → Prop := fun m k => (m % 169 < T ∨ 160 ≤ m % 169) ∧ (m = ow → k ∉ [7, 11, 12])
/-- within a routine, the T0-th name; vS, uS before it -/
def WXq (q s bq T0 : Nat) (vS : CSt) (uS : RSt) (κ : KC) (δ : KRc) (so kd : Int32) (R32 : Nat → Int32) (v : CSt) (u : RSt) : Prop := CXc v q κ ∧ CXr u δ ∧ (u.1 70 = 2 ∨ u.1 70 = 3) ∧ cI v 12 = cI vS 12 ∧ v.2.2.2.2.2.2.2.1 = vS.2.2.2.2.2.2.2.1 ∧ mI v (169 * q + T0) 2 = so ∧ mI v (169 * q + T0) 5 = kd ∧ PSr v q T0 ∧ u.2.2.1 45 = uS.2.2.1 45 ∧ u.2.2.1 32 = R32 ∧ nbs (S0q T0) vS v ∧ bk v (169 * q + T0) s = bq
section N8a
variable {v w vS : CSt} {u x uS : RSt} {i j o l n q s T T0 G N r K F P bq : Nat} {e : E5} {c : R5} {κ : KC} {δ : KRc} {so kd : Int32} {R32 : Nat → Int32} {ty : Nat → Int32}
theorem WXq_mv (h : WXq q s bq T0 vS uS κ δ so kd R32 v u) (hc : CF v w i l e κ) (hq : cR v 3 = q) (hr : RFq u x j o l c δ) : WXq q s bq T0 vS uS κ δ so kd R32 w x := by
  obtain ⟨a1, a2, a3, a4, a5, a6, a7, a8, a9, a10, a11, a12⟩ := h
  have t := hc.1.1.2.2.2.2.2
  refine ⟨hc.cx hq, hr.cx, by rw [hr.sc (by decide)]; exact a3, (hc.1.1.1 12 (by decide)).trans a4, ?_, by rw [hc.nm]; exact a6, by rw [hc.nm]; exact a7, fun i hi => ?_, (hr.row (by decide)).trans a9, (hr.row (by decide)).trans a10, fun m k hm => ⟨(hc.nm m k).trans (a11 m k hm).1, (hc.nl m k).trans (a11 m k hm).2⟩, ?_⟩
  · rw [t]; exact a5
  · rw [hc.nm] at hi
    rw [hc.nm]
    exact a8 i hi
  · rw [← a12]
    unfold bk
    rw [hc.nm, hc.nm]
/-- what the class's Items and the reference's leave within a routine -/
theorem WXq_fr (h : WXq q s bq T0 vS uS κ δ so kd R32 v u) (hT : (pI v q 12).toInt = (T : Int)) (hTT : T0 < T) (hT160 : T ≤ 160) (hk : kcq v w) (hb : kb (S1q T (169 * q + T0)) v w) (h12 : q12 v w) (hr : rcq u x) (hp : PSr w q T0) : WXq q s bq T0 vS uS κ δ so kd R32 w x := by
  obtain ⟨a1, a2, a3, a4, a5, a6, a7, a8, a9, a10, a11, a12⟩ := h
  have own : ∀ k, k ∉ [7, 11, 12] → mI w (169 * q + T0) k = mI v (169 * q + T0) k := fun k hk => (hb.1 (169 * q + T0) k ⟨Or.inl (by omega), fun _ => hk⟩).1
  refine ⟨CXc_fr a1 hk, CXr_fr a2 hr, by rw [hr.1 70 (by decide)]; exact a3, Eq.trans (show cI w 12 = cI v 12 from h12) a4, hk.2.2.2.1.trans a5, (own 2 (by decide)).trans a6, (own 5 (by decide)).trans a7, hp, (hr.2.1 45 (by decide)).trans a9, (hr.2.1 32 (by decide)).trans a10, fun m k hm => ?_, by rw [← a12]; unfold bk; rw [own 2 (by decide), own 4 (by decide)]⟩
  have := hb.1 m k ⟨?_, fun e => ?_⟩
  · exact ⟨this.1.trans (a11 m k hm).1, this.2.trans (a11 m k hm).2⟩
  · rcases hm with z | z
    · exact Or.inl (by omega)
    · exact Or.inr z
  · rcases hm with z | z
    · rw [e] at z; omega
    · rw [e] at z; omega
theorem NSq_S1 (hq : cR v 2 = q) (hT : (pI v q 12).toInt = (T : Int)) : NSq (S1q T r) v := by
  intro t k h1 h2 h3
  rw [hq, hT] at h1
  rw [hq] at h3
  rcases h3.1 with z | z <;> omega
theorem ow9_S1 (hq : cR v 2 = q) (hT : (pI v q 12).toInt = (T : Int)) (ho : (pI v q 15).toInt = (T0 : Int)) (hTT : T0 < T) : ow9 (S1q T (169 * q + T0)) v := by
  unfold ow9
  rw [hq, ho, hT]
  refine ⟨by omega, by omega, fun k hk hz => ?_⟩
  rw [n_of ho] at hz
  exact hz.2 rfl hk
theorem NSq_S0 (hq : cR v 2 = q) (hT : (pI v q 12).toInt = (T : Int)) : NSq (S0q T) v := by
  intro t k h1 h2 h3
  rw [hq, hT] at h1
  rw [hq] at h3
  rcases h3 with z | z <;> omega
/-- instances within a routine lie as before it -/
theorem WXq.inx {GS TS : Nat} (h : WXq q s bq T0 vS uS κ δ so kd R32 v u) (hTR : TR vS uS q s T0 GS) (hX : INX vS q T0) (hO : OPN v u q s T T0 K F P) : INX v q T := by
  obtain ⟨a1, a2, a3, a4, a5, a6, a7, a8, a9, a10, a11, a12⟩ := h
  obtain ⟨t1, t2, t3, t4, t5, t5', t6, t7, t8, t9, t10, t11, t12, t13, t14, t15, t16, t17⟩ := hTR
  obtain ⟨o1, o2, o3, o4, o5, -⟩ := hO
  have nm : ∀ y k, y < T0 → mI v (169 * q + y) k = mI vS (169 * q + y) k := fun y k hy => (a11 (169 * q + y) k (Or.inl (by omega))).1
  intro y hy h1 r hr
  have hyT : y < T0 := by
    rcases Nat.lt_trichotomy y T0 with z | z | z
    · exact z
    · rw [z] at h1
      rcases o3 with z2 | z2 <;> (rw [z2] at h1; exact absurd h1 (by decide))
    · have := (o4.2.2.2.2.2.2.2.2.2.2.2.2.2.2.2.1 (y - (T0 + 1)) (by omega)).1
      have ey : T0 + 1 + (y - (T0 + 1)) = y := by omega
      rw [ey, h1] at this
      split at this <;> exact absurd this (by decide)
  rw [nm y 2 hyT] at h1
  rw [nm y 14 hyT] at hr
  obtain ⟨k, r', k1, k2, k3, k4, k5, -⟩ := t17 y hyT h1
  have er : r' = r := by omega
  subst er
  rw [nm y 9 hyT, nm r' 7 k3, a4]
  exact hX y hyT h1 r' hr
theorem WXq.op8 (h : WXq q s bq T0 vS uS κ δ so kd R32 v u) (h8 : OP8 vS q) : OP8 v q := fun k hk => ((h.2.2.2.2.2.2.2.2.2.2.1 (169 * q + (160 + k)) 4 (Or.inr (by omega))).1).trans (h8 k hk)
end N8a
/-- a number of the KIND INT lies in it -/
theorem NTk_of {v : CSt} {u : RSt} {n : Nat} (h : EV1 v u n) : NTk v n := by
  intro i hi ht h2 h1
  obtain ⟨hs, hn, hc, -⟩ := (h.2.2.1 i hi).2
  rcases ht with z | z
  · exact ((hn z).2.2 ((hn z).1.mp h2)).2 h1
  · exact (hc z).2.2.2
/-- behind a routine's body -/
def RBX (N : Nat) (ty : Nat → Int32) (q s n bq r : Nat) (vS : CSt) (uS : RSt) (κ : KC) (δ : KRc) (so kd : Int32) (R32 : Nat → Int32) (i0 j : Nat) : Int32 → CSt → Int32 → RSt → Prop := fun _ w _ x => ∃ (v1 : CSt) (u1 : RSt) (i1 T1 G1 K F P : Nat), IT v1 u1 q s n i1 1 T1 G1 ∧ OPN v1 u1 q s T1 r K F P ∧ WXq q s bq r vS uS κ δ so kd R32 v1 u1 ∧ RBo N q s T1 (xmI v1 (169 * q + r) 13 (pI v1 q 13)) u1 κ δ (if so = 3 then 1 else 2) (mI v1 (169 * q + r) 7).toInt.toNat (fkq v1 q r K) (mI v1 (169 * q + r) 5) i0 j w x
section N8b
variable {v w vS : CSt} {u x uS : RSt} {i j o l n q s T T0 GS G N r K F P i0 bq : Nat} {e : E5} {c : R5} {κ : KC} {δ : KRc} {so kd f kr : Int32} {R32 : Nat → Int32} {ty : Nat → Int32}
theorem jw_rbody (hS : TR vS uS q s r GS) (hX : INX vS q r) (h8 : OP8 vS q) (hQ : KQn s i0 κ δ) (hI : IL ty q s n 1 r v u i) (hW : WXq q s bq r vS uS κ δ so kd R32 v u) (hD : dSl ty (dSt ty 24) i (.inr j)) (hi : i ≤ n) (hi0 : i0 + 1 ≤ i) (hf : (so = 3 ∧ f = 0) ∨ (so = 4 ∧ f = 1 ∧ kr = kd)) : jx (B_X3_routine_118 N so kd (169 * q + r) v) (LP_part_414 N N (f, kr, u)) (RBX N ty q s n bq r vS uS κ δ so kd R32 i0 j) := by
  obtain ⟨T, G, K, F, P, hIT, hO, rfl⟩ := hI
  refine jx_m (jc_rbody hW.2.2.1 hIT hO hD hi hf hW.2.2.2.2.2.1 (fun _ => hW.2.2.2.2.2.2.1) hW.1 hW.2.1 hQ hi0 (hW.inx (TS := T) hS hX hO) (hW.op8 h8) (NTk_of hIT.1)) (fun b w r' x h => ?_)
  exact ⟨v, u, i, T, G, K, F, P, hIT, hO, hW, h⟩
/-- locals, Stats, the end -/
theorem jw_rlocT (hS : TR vS uS q s r GS) (hX : INX vS q r) (h8 : OP8 vS q) (hQ : KQn s i0 κ δ) (hf : (so = 3 ∧ f = 0) ∨ (so = 4 ∧ f = 1 ∧ kr = kd)) : ∀ d i j k v u M M', oWn (fun i => ty i = 1) (dVars ty) (dSl ty (dSt ty 24)) d i (.inr j) → IL ty q s n 1 r v u i → WXq q s bq r vS uS κ δ so kd R32 v u → i0 + 1 ≤ i → i ≤ n → k ≤ i → jx (LP_X3_routine_79 N M (so, kd, 169 * q + r, Int32.ofNat k, v)) (LP_part_396 N M' (f, kr, u)) (RBX N ty q s n bq r vS uS κ δ so kd R32 i0 j) := by
  have e15 : (1500 : Int32).toInt = 1500 := by decide
  intro d
  induction d with
  | zero =>
    rintro i j k v u M M' ⟨z, hD⟩ hI hW hi0 hi hk
    obtain ⟨hV, h, h0, h', hty⟩ := IL_b.1 v u i hI
    have z : ¬ ty i = 1 := z
    cases M with
    | zero => exact jx_n1 rfl
    | succ M =>
      cases M' with
      | zero => exact jx_n2 rfl
      | succ M' =>
        show jx (B_X3_routine_79 N (LP_X3_routine_79 N M) so kd (169 * q + r) (Int32.ofNat k) v) (B_part_396 N (LP_part_396 N M') f kr u) _
        have z2 : ¬ tyF v i = 1 := by rw [hty]; exact z
        unfold B_X3_routine_79 B_part_396
        have fin : jx (B_X3_routine_118 N so kd (169 * q + r) v) (bn (F_is N 100 u) fun r_16 u_15 => if r_16 = (0 : Int32) then (LP_part_414 N N (f, kr, u_15)) else (bn (F_variables N 0 1 u_15) fun _ u_18 => LP_part_396 N M' (f, kr, u_18))) (RBX N ty q s n bq r vS uS κ δ so kd R32 i0 j) := by
          refine jx_r (y_is hV.2.1 (t := 1) (by decide +kernel) h' hi (fun y => absurd y z2) (fun _ => ?_))
          rw [if_pos rfl]
          exact jx_l (jw_rbody hS hX h8 hQ hI hW hD hi hi0 hf)
        exact pq_if (fun _ => fin) (fun _ => k2_if h (fun y => absurd y z2) (fun _ => fin))
  | succ d ih =>
    rintro i j k v u M M' ⟨z, hD⟩ hI hW hi0 hi hk
    obtain ⟨hV, h, h0, h', hty⟩ := IL_b.1 v u i hI
    have z : ty i = 1 := z
    obtain ⟨k1, p1, p2⟩ := oS_r hD
    have z2 : tyF v i = 1 := by rw [hty]; exact z
    have hn2 := hV.2.1.2.2
    have hil := hV.lt hi (by rw [z2]; exact nEnd (by decide) (by decide) (by decide))
    have ki := ofN_i (k := k) (by omega)
    obtain ⟨T, G, K, F, P, hIT, hO, -⟩ := id hI
    obtain ⟨t1, t2, t3, t4, t5, t5', t6, t7, t8, t9, t10, -⟩ := hIT.2.2.2.2.1
    cases M with
    | zero => exact jx_n1 rfl
    | succ M =>
      cases M' with
      | zero => exact jx_n2 rfl
      | succ M' =>
        show jx (B_X3_routine_79 N (LP_X3_routine_79 N M) so kd (169 * q + r) (Int32.ofNat k) v) (B_part_396 N (LP_part_396 N M') f kr u) _
        unfold B_X3_routine_79 B_part_396
        rw [if_neg (fun y => by have := Int32.le_iff_toInt_le.mp y; rw [e15] at this; omega)]
        refine k2_if h (fun _ => ?_) (fun y => absurd z2 y)
        refine k3_next hV.1 (CF_of h t10 hW.1) hil (fun w1 g1 => ?_)
        refine jx_r (y_is hV.2.1 (t := 1) (by decide +kernel) h' hi (fun _ => ?_) (fun y => absurd z2 y))
        rw [if_neg (by decide)]
        refine jx_l ?_
        have q2 : cR w1 2 = q := (g1.rf 2).trans t9
        have hT1 : (pI w1 q 12).toInt = (T : Int) := by rw [g1.pi q (by decide)]; exact t1
        have ho1 : (pI w1 q 15).toInt = (r : Int) := by rw [g1.pi q (by decide)]; exact hO.2.1
        have hW1 : WXq q s bq r vS uS κ δ so kd R32 w1 u := WXq_mv hW g1 t10 (RF_of h' hW.2.1)
        refine jx_bt (jx_fr (P := fun w => (kcq w1 w ∧ kb (S1q T (169 * q + r)) w1 w) ∧ q12 w1 w) (R := fun x => rcq u x ∧ r30 u x) (j_varsK IL_b (fun kd hkd v u i j hI hD hi => j_oneL hI hD hi (by omega) hkd) hI p1 hil g1.1) (fun b w e => ⟨⟨ncx_F_X3_variables _ _ e, hb_vars (Or.inr (ow9_S1 q2 hT1 ho1 hO.1)) (NSq_S1 q2 hT1) _ _ e⟩, q_vars (by decide) _ _ e⟩) (fun r' x e => ⟨ncy_F_variables _ _ e, n30_F_variables _ _ e⟩)) ?_ (fun _ _ => sk_LP_part_396 _ _)
        rintro b w r' x ⟨⟨hI2, hk1⟩, ⟨⟨f1, f2⟩, f3⟩, f4, f5⟩
        rw [ofN1 (by omega)]
        have hgt : i < k1 := pg_Vars _ _ p1
        obtain ⟨T', G', K', F', P', hIT', hO', -⟩ := id hI2
        have own : ∀ k, k ∉ [7, 11, 12] → mI w (169 * q + r) k = mI v (169 * q + r) k := fun k hk => ((f2.1 (169 * q + r) k ⟨Or.inl (by have := hO.1; omega), fun _ => hk⟩).1).trans (g1.nm _ k)
        have e11 : mI w (169 * q + r) 11 = mI v (169 * q + r) 11 := by
          have a := hO.2.2.2.1.2.2.2.2.2.2.2.2.2.1
          have b := hO'.2.2.2.1.2.2.2.2.2.2.2.2.2.1
          have eb : bk w (169 * q + r) s = bk v (169 * q + r) s := by
            unfold bk
            rw [own 2 (by decide), own 4 (by decide)]
          rw [eb, show x.2.2.1 30 = u.2.2.1 30 from f5] at b
          rw [← b, ← a]
        have hps : PSr w q r := by
          intro i hi
          rw [e11] at hi
          have hP := hO.2.2.2.1.2.2.2.2.2.2.2.2.2.2.1
          have hPK := hO.2.2.2.1.2.2.2.2.2.2.2.2.2.2.2.1
          have hKT := hO.2.2.2.2.1
          rw [(f2.1 (169 * q + (r + 1 + i)) 7 ⟨Or.inl (by omega), fun e => by omega⟩).1, g1.nm]
          exact hW.2.2.2.2.2.2.2.1 i hi
        exact ih k1 j (k + 1) w x M M' p2 hI2 (WXq_fr hW1 hT1 hO.1 t2 f1 f2 f3 f4 hps) (by omega) hk1 (by omega)
/-- behind the parameters -/
theorem jw_r62 (hS : TR vS uS q s r GS) (hX : INX vS q r) (h8 : OP8 vS q) (hQ : KQn s i0 κ δ) (hI : IL ty q s n 1 r v u i) (hW : WXq q s bq r vS uS κ δ so kd R32 v u) (hi0 : i0 ≤ i) (hf : (so = 3 ∧ f = 0) ∨ (so = 4 ∧ f = 1 ∧ kr = kd)) (hD : oS (oT ty 41) (oS (oP ty True 123) (dVs ty)) i (.inr j)) (hi : i ≤ n) : jx (B_X3_routine_62 N so kd (169 * q + r) v) (B_part_355 N f kr u) (RBX N ty q s n bq r vS uS κ δ so kd (upd R32 bq (Int32.ofNat δ.1)) i0 j) := by
  obtain ⟨hV, h, h0, h', hty⟩ := IL_b.1 v u i hI
  obtain ⟨k1, p1, p2⟩ := oS_r hD
  obtain ⟨t1, rfl⟩ := oT_r p1
  obtain ⟨k2, p3, d, p4⟩ := oS_r p2
  obtain ⟨t2, -, rfl⟩ := oP_r p3
  rw [← hty] at t1 t2
  have hil := hV.lt hi (by rw [t1]; exact nEnd (by decide) (by decide) (by decide))
  have hi1 : i + 1 < n := hV.lt (i := i + 1) hil (by rw [t2]; exact nEnd (by decide) (by decide) (by decide))
  have hj := hV.2.2.2.2.1
  have hn2 := hV.2.1.2.2
  obtain ⟨T, G, K, F, P, hIT, hO, -⟩ := id hI
  have t10 := hIT.2.2.2.2.1.2.2.2.2.2.2.2.2.2.2.1
  have t6 := hIT.2.2.2.2.1.2.2.2.2.2.2.1
  have t7 := hIT.2.2.2.2.1.2.2.2.2.2.2.2.1
  obtain ⟨b1, b2, b3⟩ := hQ
  unfold B_X3_routine_62 B_part_355
  refine k3_next hV.1 (CF_of h t10 hW.1) hil (fun w1 g1 => k3_next hV.1 g1 hi1 (fun w2 g2 => ?_))
  refine jx_r (w_ends hV.2.1 (t := 41) (by decide +kernel) (RF_of h' hW.2.1) hil t1 (by omega) (fun x1 r1 => w_begins hV.2.1 (t := 123) (by decide +kernel) r1 hi1 t2 (by omega) (fun x2 r2 => ?_)))
  rw [if_neg (by rw [r2.sc (by decide)]; exact hj), if_pos r2.fl]
  refine w_here r2 (by have := b3; have := t7; omega) (fun a ha => pp_wr (jx_l ?_))
  have hI2 : IL ty q s n 1 r w2 x2 (i + 1 + 1) := IL_b.2 v u w2 x2 i (i + 1 + 1) _ _ hI g2.1 h0 r2.1
  have hW2 := WXq_mv hW g2 t10 r2
  have e71 : (x2.1 71).toNatClampNeg = bq := by
    rw [r2.sc (by decide), ← hW.2.2.2.2.2.2.2.2.2.2.2]
    exact n_of hO.2.2.2.2.2.2.2.2.2.1
  rw [e71]
  have hW3 : WXq q s bq r vS uS κ δ so kd (upd R32 bq (Int32.ofNat δ.1)) w2 (sA x2 32 bq a) := by
    obtain ⟨a1, a2, a3, a4, a5, a6, a7, a8, a9, a10, a11, a12⟩ := hW2
    refine ⟨a1, ?_, a3, a4, a5, a6, a7, a8, ?_, ?_, a11, a12⟩
    · obtain ⟨c1, c2, c3, c4, c5⟩ := a2
      exact ⟨c1, c2, c3, c4, c5⟩
    · exact a9
    · show upd (x2.2.2.1 32) bq a = _
      rw [a10, ofN_of ha]
  exact jw_rlocT hS hX h8 ⟨b1, b2, b3⟩ hf d (i + 1 + 1) j 0 w2 _ N N p4 (IL_32 hI2) hW3 (by omega) hi1 (Nat.zero_le _)
/-- what a parameter leaves -/
theorem jw_par (hI : IP ty q s n o r v u i) (hW : WXq q s bq r vS uS κ δ so kd R32 v u) (hD : dPar ty i (.inr j)) (hi : i ≤ n) : jx (B_X3_parameter_19 N v) (F_parameter N u) (fun _ w _ x => (IP ty q s n o r w x j ∧ j ≤ n) ∧ WXq q s bq r vS uS κ δ so kd R32 w x) := by
  obtain ⟨T, G, K, F, hIT, hO, rfl⟩ := id hI
  obtain ⟨t1, t2, t3, t4, t5, t5', t6, t7, t8, t9, t10, -⟩ := hIT.2.2.2.2.1
  refine jx_m (jx_fr (P := fun w => ((kcq v w ∧ kb (S1q T (169 * q + r)) v w) ∧ q12 v w) ∧ (∃ r', r' = 169 * cR v 2 + (pI v (cR v 2) 12).toInt.toNat ∧ mI w r' 7 = 1 ∧ mI w (169 * cR v 2 + r) 11 = mI v (169 * cR v 2 + r) 11 + 1 ∧ (pI w (cR v 2) 12).toInt = (pI v (cR v 2) 12).toInt + 1)) (R := fun x => rcq u x) (j_par hI hD hi) (fun b w e => ⟨⟨⟨ncx_B_X3_parameter_19 _ _ e, hb_par19 (ow9_S1 t9 t1 hO.2.1 hO.1) (NSq_S1 t9 t1) _ _ e⟩, n12_B_X3_parameter_19 _ _ e⟩, E_par (by rw [t9]; exact hO.2.1) (by rw [t9, t1]; have := hO.1; omega) _ _ e b rfl⟩) (fun r' x e => ncy_F_parameter _ _ e)) ?_
  rintro b w r' x ⟨hI2, ⟨⟨⟨f1, f2⟩, f3⟩, ⟨m, em, m7, m11, m12⟩⟩, f4⟩
  rw [t9, t1] at em m12
  rw [t9] at m11
  have em : m = 169 * q + T := em
  subst em
  have e1 : (1 : Int32).toInt = 1 := by decide
  have hP := hO.2.2.2.1.2.2.2.2.2.2.2.2.2.2.1
  have hPK := hO.2.2.2.1.2.2.2.2.2.2.2.2.2.2.2.1
  have hKT := hO.2.2.2.2.1
  refine ⟨hI2, WXq_fr hW t1 hO.1 t2 f1 f2 f3 f4 (fun i hi => ?_)⟩
  · rw [m11, tI_add (by omega) (by omega), e1, hP] at hi
    by_cases y : i < K
    · rw [(f2.1 (169 * q + (r + 1 + i)) 7 ⟨Or.inl (by omega), fun e => by omega⟩).1]
      exact hW.2.2.2.2.2.2.2.1 i (by omega)
    · have ei : r + 1 + i = T := by omega
      rw [ei]
      exact m7
/-- parameters behind the first, and the rest -/
theorem jw_rparT (hS : TR vS uS q s r GS) (hX : INX vS q r) (h8 : OP8 vS q) (hQ : KQn s i0 κ δ) (hf : (so = 3 ∧ f = 0) ∨ (so = 4 ∧ f = 1 ∧ kr = kd)) : ∀ d i j k v u M M', oWn (fun i => ty i = 44) (oN (dPar ty)) (oS (oT ty 41) (oS (oP ty True 123) (dVs ty))) d i (.inr j) → IP ty q s n 1 r v u i → WXq q s bq r vS uS κ δ so kd R32 v u → i0 ≤ i → i ≤ n → k ≤ i → jx (LP_X3_routine_32 N M (so, kd, 169 * q + r, Int32.ofNat k, v)) (LP_part_338 N M' (f, kr, u)) (RBX N ty q s n bq r vS uS κ δ so kd (upd R32 bq (Int32.ofNat δ.1)) i0 j) := by
  have e15 : (1500 : Int32).toInt = 1500 := by decide
  intro d
  induction d with
  | zero =>
    rintro i j k v u M M' ⟨z, hD⟩ hI hW hi0 hi hk
    obtain ⟨hV, h, h0, h', hty⟩ := IL_b.1 v u i hI.il
    have z : ¬ ty i = 44 := z
    obtain ⟨k1, p1, p2⟩ := oS_r hD
    obtain ⟨t1, -⟩ := oT_r p1
    cases M with
    | zero => exact jx_n1 rfl
    | succ M =>
      cases M' with
      | zero => exact jx_n2 rfl
      | succ M' =>
        show jx (B_X3_routine_32 N (LP_X3_routine_32 N M) so kd (169 * q + r) (Int32.ofNat k) v) (B_part_338 N (LP_part_338 N M') f kr u) _
        have z2 : ¬ tyF v i = 44 := by rw [hty]; exact z
        have t2 : tyF v i = 41 := by rw [hty]; exact t1
        unfold B_X3_routine_32 B_part_338
        have fin : jx (B_X3_routine_62 N so kd (169 * q + r) v) (bn (F_has N 230 u) fun r_28 u_27 => if r_28 = (0 : Int32) then (B_part_355 N f kr u_27) else (bn (F_parameter N u_27) fun _ u_30 => LP_part_338 N M' (f, kr, u_30))) (RBX N ty q s n bq r vS uS κ δ so kd (upd R32 bq (Int32.ofNat δ.1)) i0 j) := by
          refine jx_r (y_has hV.2.1 (t := 44) (by decide +kernel) (nEnd (by decide) (by decide) (by decide)) h' hi (fun y => absurd y z2) (fun _ => ?_))
          rw [if_pos rfl]
          exact jx_l (jw_r62 hS hX h8 hQ hI.il hW hi0 hf hD hi)
        exact pq_if (fun _ => fin) (fun _ => k2_if h (fun _ => fin) (fun y => absurd t2 y))
  | succ d ih =>
    rintro i j k v u M M' ⟨z, hD⟩ hI hW hi0 hi hk
    obtain ⟨hV, h, h0, h', hty⟩ := IL_b.1 v u i hI.il
    have z : ty i = 44 := z
    obtain ⟨k1, p1, p2⟩ := oS_r hD
    have z2 : tyF v i = 44 := by rw [hty]; exact z
    have hn2 := hV.2.1.2.2
    have hil := hV.lt hi (by rw [z2]; exact nEnd (by decide) (by decide) (by decide))
    have ki := ofN_i (k := k) (by omega)
    obtain ⟨T, G, K, F, hIT, hO, -⟩ := id hI
    have t10 := hIT.2.2.2.2.1.2.2.2.2.2.2.2.2.2.2.1
    cases M with
    | zero => exact jx_n1 rfl
    | succ M =>
      cases M' with
      | zero => exact jx_n2 rfl
      | succ M' =>
        show jx (B_X3_routine_32 N (LP_X3_routine_32 N M) so kd (169 * q + r) (Int32.ofNat k) v) (B_part_338 N (LP_part_338 N M') f kr u) _
        unfold B_X3_routine_32 B_part_338
        rw [if_neg (fun y => by have := Int32.le_iff_toInt_le.mp y; rw [e15] at this; omega)]
        refine k2_if h (fun y => by rw [z2] at y; exact absurd y (by decide)) (fun _ => ?_)
        unfold F_X3_parameter B_X3_parameter_0
        rw [bt_bc]
        refine k2_is h (fun _ => ?_) (fun y => absurd z2 y)
        rw [if_neg (by decide), bt_bc]
        refine k3_next hV.1 (CF_of h t10 hW.1) hil (fun w1 g1 => ?_)
        refine jx_r (w_has hV.2.1 (t := 44) (by decide +kernel) (nEnd (by decide) (by decide) (by decide)) (RF_of h' hW.2.1) hi (fun _ _ x1 r1 => ?_) (fun y => absurd z2 y))
        rw [if_neg (by decide)]
        refine jx_l ?_
        refine jx_bt (jw_par (IP_mv hI g1.1 h0 r1.1) (WXq_mv hW g1 t10 r1) p1 hil) ?_ (fun _ _ => sk_LP_part_338 _ _)
        rintro b w r' x ⟨⟨hI2, hk1⟩, hW2⟩
        rw [ofN1 (by omega)]
        have hgt : i + 1 < k1 := pg_Par _ _ p1
        exact ih k1 j (k + 1) w x M M' p2 hI2 hW2 (by omega) hk1 (by omega)
end N8b
/-! Items with the code told: a block, a function, a task, from their NAME on. -/
/-- the number of a new block or function -/
def bQ (u : RSt) (s : Nat) (so : Int32) : Nat := if so = 3 then 24 * s + (u.2.2.1 36 s).toInt.toNat else 24 * s + 8 + (u.2.2.1 37 s).toInt.toNat
section N9a
variable {v w : CSt} {u x : RSt} {i j o l n q s T G N r K F P i0 : Nat} {e : E5} {c : R5} {κ : KC} {δ : KRc} {so kd f kr : Int32} {ty : Nat → Int32}
theorem CXr_of (h : CXr u δ) (h56 : x.1 56 = u.1 56) (hA : ∀ k, k ∈ [49, 50, 51, 54, 75, 76] → x.2.2.1 k = u.2.2.1 k) (hB : ∀ k, k ∈ [52, 53] → x.2.2.2 k = u.2.2.2 k) : CXr x δ := by
  obtain ⟨a1, a2, a3, a4, a5⟩ := h
  refine ⟨by rw [h56]; exact a1, by rw [h56, hA 54 (by decide)]; exact a2, ?_, (hA 75 (by decide)).trans a4, (hA 76 (by decide)).trans a5⟩
  rw [hA 49 (by decide), hA 50 (by decide), hA 51 (by decide), hB 52 (by decide), hB 53 (by decide)]
  exact a3
/-- behind the opening of a routine -/
theorem WXq_open {x y : RSt} {bq R : Nat} {wh wc kr : Int32} (hV : (pI v q 12).toInt = (T : Int)) (hT : T < 160) (hq : cR v 2 = q) (hC : CXc v q κ) (hR : CXr u δ) (hw : OAq v (169 * q + T) so w) (hk : kcq v w) (hn11 : mI w (169 * q + T) 11 = 0) (hX : TLr u x G so (pA v q 9 so.toNatClampNeg) i) (hP : PTr x y bq i R wh wc kr) (hR9 : R = 36 ∨ R = 37) (hwh : wh = 2 ∨ wh = 3) (hbk : bk w (169 * q + T) s = bq) {a : Int32} : WXq q s bq T v u κ δ so kd (u.2.2.1 32) (xpI (xmI w (169 * q + T) 5 kd) q 15 a) (sI y 65 (y.1 65 + 1)) := by
  obtain ⟨a1, a2, a3, a4, a5, a6, a7, a8, a9⟩ := hw
  have e0 : (0 : Int32).toInt = 0 := by decide
  have yA : ∀ k, k ∈ [32, 45, 49, 50, 51, 54, 75, 76] → y.2.2.1 k = u.2.2.1 k := fun k hk => by
    rw [hP.2.2.2.2.2.2.1 k (fun z => by simp only [List.mem_cons, List.not_mem_nil, or_false] at hk z; omega), hX.2.2.1 k (fun z => by simp only [List.mem_cons, List.not_mem_nil, or_false] at hk z; omega)]
  have yB : ∀ k, k ∈ [52, 53] → y.2.2.2 k = u.2.2.2 k := fun k hk => by
    rw [hP.2.2.2.2.2.2.2.1 k (fun z => by simp only [List.mem_cons, List.not_mem_nil, or_false] at hk z; omega), hX.2.2.2.1 k (fun z => by simp only [List.mem_cons, List.not_mem_nil, or_false] at hk z; omega)]
  have y56 : y.1 56 = u.1 56 := (hP.1 56 (by decide)).trans (hX.1 56 (by decide))
  refine ⟨?_, CXr_of (x := sI y 65 (y.1 65 + 1)) hR y56 (fun k hk => yA k (by simp only [List.mem_cons, List.not_mem_nil, or_false] at hk ⊢; omega)) yB, ?_, a6, hk.2.2.2.1, ?_, h_mI, fun i hi => ?_, yA 45 (by decide), yA 32 (by decide), fun m k hm => ⟨?_, ?_⟩, ?_⟩
  · obtain ⟨c1, c2, c3, c4, c5, c6, c7⟩ := CXc_fr hC hk
    exact ⟨by rw [pI_n (by decide)]; exact c1, c2, by rw [pI_n (by decide)]; exact c3, c4, c5, c6, c7⟩
  · show y.1 70 = 2 ∨ y.1 70 = 3
    rw [hP.2.1]
    exact hwh
  · show mI (xmI w (169 * q + T) 5 kd) (169 * q + T) 2 = so
    rw [h_mI2 (by decide)]
    exact a5
  · have e : mI (xpI (xmI w (169 * q + T) 5 kd) q 15 a) (169 * q + T) 11 = 0 := by
      show mI (xmI w (169 * q + T) 5 kd) (169 * q + T) 11 = 0
      rw [h_mI2 (by decide)]
      exact hn11
    rw [e, e0] at hi
    omega
  · have nm : m ≠ 169 * q + T := fun z => by
      rcases hm with y | y <;> (rw [z] at y; omega)
    show mI (xmI w (169 * q + T) 5 kd) m k = _
    rw [mI_ne (Or.inl nm)]
    exact (a4 m k nm).1
  · have nm : m ≠ 169 * q + T := fun z => by
      rcases hm with y | y <;> (rw [z] at y; omega)
    show mL w m k = _
    exact (a4 m k nm).2
  · rw [← hbk]
    show bk (xmI w (169 * q + T) 5 kd) (169 * q + T) s = _
    unfold bk
    rw [h_mI2 (by decide), h_mI2 (by decide)]
/-- block, function: from its NAME on -/
theorem jw_routine (hIT : IT v u q s n i 0 T G) (hO : OWN0 v u q) (hC : CXc v q κ) (hR : CXr u δ) (hQ : KQn s i0 κ δ) (hi0 : i0 ≤ i) (hX0 : INX v q T) (h8 : OP8 v q) (hD : dRout (tyF v) i (.inr j)) (hi : i ≤ n) (hf : (so = 3 ∧ f = 0) ∨ (so = 4 ∧ f = 1 ∧ KD kd ∧ kr = kd)) : jx (F_X3_routine N so kd v) (B_part_22 N f kr u) (fun b w r x => ∃ bq, bq = bQ u s so ∧ RBX N (tyF v) q s n bq T v u κ δ so kd (upd (u.2.2.1 32) bq (Int32.ofNat δ.1)) i0 j b w r x) := by
  obtain ⟨hV, h, h', h16, hTR, hT2⟩ := id hIT
  obtain ⟨t1, t2, t3, t4, t5, t5', t6, t7, t8, t9, t10, t11, t12, t13, t14, t15, t16, t17⟩ := id hTR
  obtain ⟨s1, s2, s3, s4, s5, s6, s7⟩ := id hT2
  obtain ⟨c0, c1, c2, c3, c4, c5, c6, c7, c8, c9, c10⟩ := id s2
  obtain ⟨k1, p1, p2⟩ := oS_r hD
  obtain ⟨tt, rfl⟩ := oT_r p1
  obtain ⟨k2, p3, p4⟩ := oS_r p2
  obtain ⟨t40, -, rfl⟩ := oP_r p3
  have hil : i < n := hV.lt hi (by rw [tt]; exact nEnd (by decide) (by decide) (by decide))
  have hi1 : i + 1 < n := hV.lt (i := i + 1) hil (by rw [t40]; exact nEnd (by decide) (by decide) (by decide))
  have hj := hV.2.2.2.2.1
  have hn2 := hV.2.1.2.2
  have e8 : (8 : Int32).toInt = 8 := by decide
  have e16 : (16 : Int32).toInt = 16 := by decide
  have b3 : (bt_1.getD 3 0).toInt = 8 := by decide
  have b4 : (bt_1.getD 4 0).toInt = 16 := by decide
  have hff : (so = 3 ∧ f = 0) ∨ (so = 4 ∧ f = 1 ∧ kr = kd) := by rcases hf with z | z; exact Or.inl z; exact Or.inr ⟨z.1, z.2.1, z.2.2.2⟩
  -- behind the opening
  have rest : ∀ bq w y, bq = bQ u s so → IP (tyF v) q s n 0 T w y (i + 1) → WXq q s bq T v u κ δ so kd (u.2.2.1 32) w y → jx (bc (F_X9_next N w) fun _ u_41 => LP_X3_routine_32 N N (so, kd, 169 * q + T, 0, u_41)) (bn (F_begins N 223 y) fun _ u_32 => if (u_32.1 67) = (0 : Int32) then (bn (F_is N 224 u_32) fun r_35 u_34 => if r_35 = (0 : Int32) then (bn (F_parameter N u_34) fun _ u_37 => LP_part_338 N N (f, kr, u_37)) else (B_part_355 N f kr u_34)) else (B_part_355 N f kr u_32)) (fun b w r x => ∃ bq, bq = bQ u s so ∧ RBX N (tyF v) q s n bq T v u κ δ so kd (upd (u.2.2.1 32) bq (Int32.ofNat δ.1)) i0 j b w r x) := by
    intro bq w y hbq hP hW
    have ex : ∀ {X : Option (Sum Nat Int32 × CSt)} {Y : Option (Int32 × RSt)}, jx X Y (RBX N (tyF v) q s n bq T v u κ δ so kd (upd (u.2.2.1 32) bq (Int32.ofNat δ.1)) i0 j) → jx X Y (fun b w r x => ∃ bq, bq = bQ u s so ∧ RBX N (tyF v) q s n bq T v u κ δ so kd (upd (u.2.2.1 32) bq (Int32.ofNat δ.1)) i0 j b w r x) := fun hx => jx_m hx (fun b w r x hz => ⟨bq, hbq, hz⟩)
    obtain ⟨hVw, hw, h0w, hy, htw⟩ := IL_b.1 w y (i + 1) hP.il
    have t40w : tyF w (i + 1) = 40 := by rw [htw]; exact t40
    obtain ⟨Tw, Gw, Kw, Fw, hITw, hOw, -⟩ := id hP
    have w10 := hITw.2.2.2.2.1.2.2.2.2.2.2.2.2.2.2.1
    refine k3_next hVw.1 (CF_of hw w10 hW.1) hi1 (fun w2 g2 => ?_)
    refine jx_r (w_begins hVw.2.1 (t := 40) (by decide +kernel) (RF_of hy hW.2.1) hi1 t40w (by omega) (fun y2 r2 => ?_))
    have hP2 : IP (tyF v) q s n 1 T w2 y2 (i + 1 + 1) := IP_mv hP g2.1 h0w r2.1
    have hW2 := WXq_mv hW g2 w10 r2
    obtain ⟨hV2, hw2, h02, hy2, ht2⟩ := IL_b.1 w2 y2 (i + 1 + 1) hP2.il
    rw [if_pos r2.fl]
    rcases oF_r p4 with ⟨z, q4⟩ | ⟨z, q4⟩
    · have z2 : tyF w2 (i + 1 + 1) = 41 := by rw [ht2]; exact z
      rcases oW_r q4 with ⟨-, q5⟩ | ⟨q5, -⟩
      · refine y_is hV2.2.1 (t := 41) (by decide +kernel) hy2 hi1 (fun _ => ?_) (fun y => absurd z2 y)
        rw [if_neg (by decide)]
        refine jx_l (ex ?_)
        have key : ∀ M, jx (LP_X3_routine_32 N M (so, kd, 169 * q + T, 0, w2)) (B_part_355 N f kr y2) (RBX N (tyF v) q s n bq T v u κ δ so kd (upd (u.2.2.1 32) bq (Int32.ofNat δ.1)) i0 j) := by
          intro M
          cases M with
          | zero => exact jx_n1 rfl
          | succ M =>
            show jx (B_X3_routine_32 N (LP_X3_routine_32 N M) so kd (169 * q + T) 0 w2) _ _
            unfold B_X3_routine_32
            have fin := jw_r62 (N := N) hTR hX0 h8 hQ hP2.il hW2 (by omega) hff q5 hi1
            exact pq_if (fun _ => fin) (fun _ => k2_if hw2 (fun _ => fin) (fun y => absurd z2 y))
        exact key N
      · rw [z] at q5
        exact absurd q5 (by decide)
    · have z2 : ¬ tyF w2 (i + 1 + 1) = 41 := by rw [ht2]; exact z
      obtain ⟨k3, q5, d, q6⟩ := oS_r q4
      refine y_is hV2.2.1 (t := 41) (by decide +kernel) hy2 hi1 (fun y => absurd y z2) (fun _ => ?_)
      rw [if_pos rfl]
      refine jx_l (ex ?_)
      have hgt : i + 1 + 1 < k3 := pg_Par _ _ q5
      have tk : 12 ≤ tyF w2 (i + 1 + 1) ∧ tyF w2 (i + 1 + 1) ≤ 16 := by
        obtain ⟨k4, q7, -⟩ := oS_r q5
        rw [ht2]
        exact (oK_r q7).1
      have key : ∀ M, jx (LP_X3_routine_32 N M (so, kd, 169 * q + T, 0, w2)) (bn (F_parameter N y2) fun _ u_37 => LP_part_338 N N (f, kr, u_37)) (RBX N (tyF v) q s n bq T v u κ δ so kd (upd (u.2.2.1 32) bq (Int32.ofNat δ.1)) i0 j) := by
        intro M
        cases M with
        | zero => exact jx_n1 rfl
        | succ M =>
          show jx (B_X3_routine_32 N (LP_X3_routine_32 N M) so kd (169 * q + T) 0 w2) _ _
          unfold B_X3_routine_32
          rw [if_neg (by decide)]
          refine k2_if hw2 (fun y => absurd y z2) (fun _ => ?_)
          unfold F_X3_parameter B_X3_parameter_0
          rw [bt_bc]
          refine k2_is hw2 (fun y => by rw [y] at tk; exact absurd tk.2 (by decide)) (fun _ => ?_)
          rw [if_pos rfl]
          refine jx_bt (jw_par hP2 hW2 q5 hi1) ?_ (fun _ _ => sk_LP_part_338 _ _)
          rintro b w4 r4 x4 ⟨⟨hI4, hk3⟩, hW4⟩
          exact jw_rparT hTR hX0 h8 hQ hff d k3 j 1 w4 x4 M N q6 hI4 hW4 (by omega) hk3 (by omega)
      exact key N
  unfold F_X3_routine B_X3_routine_0 B_part_22
  refine jx_r (y_is hV.2.1 (t := 128) (by decide +kernel) h' hi (fun _ => ?_) (fun y => absurd tt y))
  rw [if_neg (by decide)]
  have nr := (hV.2.2.1 i hil).2.2.2.2 tt
  rcases hf with ⟨z1, z2⟩ | ⟨z1, z2, z3, z4⟩
  · subst z1 z2
    have k36 : (u.2.2.1 36 s).toInt = ((u.2.2.1 36 s).toInt.toNat : Nat) := by omega
    rw [if_pos rfl]
    refine pp_rd ?_
    rw [n_of t6]
    unfold B_part_61 B_part_72 B_part_85
    rw [if_pos rfl, if_pos rfl]
    have main : ∀ l3 : Int32, (l3 = 0 ↔ ¬ u.2.2.1 36 s = 8) → jx (bt (F_X3_newName N 3 v) fun r_35 u_34 => ok (r_35 < 338) inferInstance <| pc (xmI u_34 r_35 5 kd) fun u_38 => ok (cR u_38 2 < 2) inferInstance <| pc (xpI u_38 (cR u_38 2) 15 (mI u_38 r_35 3)) fun u_40 => bc (F_X9_next N u_40) fun _ u_41 => LP_X3_routine_32 N N (3, kd, r_35, 0, u_41)) (B_part_93 N 0 kr (u.2.2.1 36 s) 3 (u.2.2.1 36 s) l3 u) (fun b w r x => ∃ bq, bq = bQ u s 3 ∧ RBX N (tyF v) q s n bq T v u κ δ 3 kd (upd (u.2.2.1 32) bq (Int32.ofNat δ.1)) i0 j b w r x) := by
      intro l3 hl3
      unfold B_part_93
      refine jx_bq (P := fun r w => OAq v r 3 w ∧ kcq v w) (fun r w e => ⟨E_new _ _ e r rfl, ncx_F_X3_newName _ _ e⟩) ?_
      refine j_newG (so := 3) (sn := 3) (k0 := (u.2.2.1 36 s).toInt.toNat) hV hTR h h' hil tt (by decide) (by omega) (by rw [c3]; exact k36) (by omega) (fun _ => ?_) (fun w x hT hk f1 f2 hN hC' hX => jx_ifP (fun hoa => ?_)) (fun _ _ => by repeat' (first | exact KP_some kp_rf | with_reducible refine KP_bn ?_ (fun _ _ => ?_) | with_reducible refine KP_if ?_ ?_ | with_reducible refine KP_rd (fun _ => ?_) | with_reducible refine KP_zr ?_ | (with_reducible refine KP_pu2 ?_ ?_; first | exact ks_sI (by decide) kp_rf | exact ks_sL kp_rf | exact ks_sA (by decide) kp_rf | exact ks_sB (by decide) kp_rf) | (with_reducible refine KP_wr2 ?_ ?_; first | exact ks_sA (by decide) kp_rf | exact ks_sB (by decide) kp_rf) | with_reducible exact h_ro _ _ _ _ | with_reducible exact sk_F_is | with_reducible exact sk_F_take | with_reducible exact sk_F_emit | with_reducible exact sk_F_wrong | with_reducible exact sk_F_cost | with_reducible exact sk_F_stuck | with_reducible exact sk_F_ends | with_reducible exact sk_F_begins | with_reducible exact sk_F_opens | with_reducible exact sk_F_has | with_reducible exact sk_F_isNumber | with_reducible exact sk_F_isNext | with_reducible exact sk_F_push | with_reducible exact sk_F_lead | with_reducible exact sk_F_here | with_reducible exact sk_F_kind | with_reducible exact sk_F_isKind | with_reducible exact sk_F_own | with_reducible exact sk_F_constant | with_reducible exact sk_F_bounded | with_reducible exact sk_F_joined | with_reducible exact sk_F_strength | with_reducible exact sk_F_leadAll | with_reducible exact sk_F_loop | with_reducible exact sk_F_label | with_reducible exact sk_F_leaves | with_reducible exact sk_F_telling | with_reducible exact sk_F_local | with_reducible exact sk_F_addSlot | with_reducible exact sk_F_addVariable | with_reducible exact sk_F_isTooWide | with_reducible exact sk_F_named | with_reducible exact sk_F_slotOf | with_reducible exact sk_F_bad | with_reducible exact sk_G_expression | with_reducible exact sk_G_spot | with_reducible exact sk_G_body | with_reducible exact sk_G_stat | with_reducible exact sk_B_part_438 | (with_reducible refine sk_B_part_414 ?_ <;> assumption) | with_reducible exact sk_LP_part_414 _ _ | (with_reducible refine sk_B_part_396 ?_ <;> assumption) | with_reducible exact sk_LP_part_396 _ _ | with_reducible exact sk_B_part_355 | (with_reducible refine sk_B_part_338 ?_ <;> assumption) | with_reducible exact sk_LP_part_338 _ _ | with_reducible exact sk_B_part_300 | with_reducible exact sk_B_part_138 | with_reducible exact sk_B_part_125 | with_reducible exact sk_B_part_93 | with_reducible exact sk_B_part_85 | with_reducible exact sk_B_part_72 | with_reducible exact sk_B_part_61 | with_reducible exact sk_B_part_22 | with_reducible exact sk_B_part_0 | with_reducible exact sk_F_part))
      · rw [hl3, b3, tI_eq, e8]
        omega
      · rw [b3] at hk
        refine pq_ok (fun _ => pq_pc ?_)
        have x69 : ¬ x.1 69 = 0 := by rw [hX.1 69 (by decide)]; exact hj
        have wR2 : cR (xmI w (169 * q + T) 5 kd) 2 = q := by
          show w.2.2.2.2.2.2.2.2.2.2 2 = q
          rw [hN.2.2.2.2.2.2.2.2.1]
          exact t9
        rw [wR2]
        refine pq_ok (fun _ => pq_pc ?_)
        rw [if_pos rfl]
        have hwc : (24 * x.1 56 + u.2.2.1 36 s).toInt = (24 * s + (u.2.2.1 36 s).toInt.toNat : Nat) := (m24 (by rw [hX.1 56 (by decide)]; exact t6) t7 k36 (by omega)).1
        refine jx_r (y_part (TLr_re hX h') x69 (n_of hwc) (Or.inl ⟨rfl, rfl⟩) (fun y hP => ?_))
        unfold B_part_300
        refine pp_pu (jx_l ?_)
        obtain ⟨y1, F, y2⟩ := IT_open (kd := kd) hIT hT (Or.inl ⟨rfl, rfl, rfl, rfl, by omega, by rfl, k36⟩) nr f1 f2 hN (by rw [c3]; exact hX) hwc hP hC' (TLr_re hX h')
        have hX' : TLr u x G 3 (pA v q 9 (3 : Int32).toNatClampNeg) i := by
          rw [show (3 : Int32).toNatClampNeg = 3 by decide, c3]
          exact hX
        have hbk : bk w (169 * q + T) s = 24 * s + (u.2.2.1 36 s).toInt.toNat := by
          unfold bk
          rw [if_pos hoa.1.2.2.2.2.1, hN.2.2.2.2.2.2.2.2.2.2.2.2.2, c3]
          rfl
        exact rest (24 * s + (u.2.2.1 36 s).toInt.toNat) _ _ (by unfold bQ; rw [if_pos rfl]) ⟨T + 1, G + 1, 0, F, y1, y2, (by exact (tkC_ty (NGc_tk hN) : tyF w = tyF v))⟩ (WXq_open t1 hT t9 hC hR hoa.1 hoa.2 hN.2.2.2.2.2.2.2.2.2.2.2.1.2.2.2.2.2.2.2.2.2.1 hX' hP (Or.inl rfl) (Or.inl rfl) hbk)
    by_cases y : u.2.2.1 36 s = 8
    · rw [if_pos y]
      exact jx_l (main 1 ⟨fun z => absurd z (by decide), fun z => absurd y z⟩)
    · rw [if_neg y]
      exact jx_l (main 0 ⟨fun _ => y, fun _ => rfl⟩)
  · subst z1 z2 z4
    have k37 : (u.2.2.1 37 s).toInt = ((u.2.2.1 37 s).toInt.toNat : Nat) := by omega
    rw [if_neg (by decide)]
    refine pp_rd ?_
    rw [n_of t6]
    unfold B_part_61 B_part_72 B_part_85
    rw [if_neg (by decide), if_neg (by decide)]
    have main : ∀ l3 : Int32, (l3 = 0 ↔ ¬ u.2.2.1 37 s = 16) → jx (bt (F_X3_newName N 4 v) fun r_35 u_34 => ok (r_35 < 338) inferInstance <| pc (xmI u_34 r_35 5 kr) fun u_38 => ok (cR u_38 2 < 2) inferInstance <| pc (xpI u_38 (cR u_38 2) 15 (mI u_38 r_35 3)) fun u_40 => bc (F_X9_next N u_40) fun _ u_41 => LP_X3_routine_32 N N (4, kr, r_35, 0, u_41)) (B_part_93 N 1 kr (u.2.2.1 37 s) 4 (u.2.2.1 37 s) l3 u) (fun b w r x => ∃ bq, bq = bQ u s 4 ∧ RBX N (tyF v) q s n bq T v u κ δ 4 kr (upd (u.2.2.1 32) bq (Int32.ofNat δ.1)) i0 j b w r x) := by
      intro l3 hl3
      unfold B_part_93
      refine jx_bq (P := fun r w => OAq v r 4 w ∧ kcq v w) (fun r w e => ⟨E_new _ _ e r rfl, ncx_F_X3_newName _ _ e⟩) ?_
      refine j_newG (so := 4) (sn := 4) (k0 := (u.2.2.1 37 s).toInt.toNat) hV hTR h h' hil tt (by decide) (by omega) (by rw [c4]; exact k37) (by omega) (fun _ => ?_) (fun w x hT hk f1 f2 hN hC' hX => jx_ifP (fun hoa => ?_)) (fun _ _ => by repeat' (first | exact KP_some kp_rf | with_reducible refine KP_bn ?_ (fun _ _ => ?_) | with_reducible refine KP_if ?_ ?_ | with_reducible refine KP_rd (fun _ => ?_) | with_reducible refine KP_zr ?_ | (with_reducible refine KP_pu2 ?_ ?_; first | exact ks_sI (by decide) kp_rf | exact ks_sL kp_rf | exact ks_sA (by decide) kp_rf | exact ks_sB (by decide) kp_rf) | (with_reducible refine KP_wr2 ?_ ?_; first | exact ks_sA (by decide) kp_rf | exact ks_sB (by decide) kp_rf) | with_reducible exact h_ro _ _ _ _ | with_reducible exact sk_F_is | with_reducible exact sk_F_take | with_reducible exact sk_F_emit | with_reducible exact sk_F_wrong | with_reducible exact sk_F_cost | with_reducible exact sk_F_stuck | with_reducible exact sk_F_ends | with_reducible exact sk_F_begins | with_reducible exact sk_F_opens | with_reducible exact sk_F_has | with_reducible exact sk_F_isNumber | with_reducible exact sk_F_isNext | with_reducible exact sk_F_push | with_reducible exact sk_F_lead | with_reducible exact sk_F_here | with_reducible exact sk_F_kind | with_reducible exact sk_F_isKind | with_reducible exact sk_F_own | with_reducible exact sk_F_constant | with_reducible exact sk_F_bounded | with_reducible exact sk_F_joined | with_reducible exact sk_F_strength | with_reducible exact sk_F_leadAll | with_reducible exact sk_F_loop | with_reducible exact sk_F_label | with_reducible exact sk_F_leaves | with_reducible exact sk_F_telling | with_reducible exact sk_F_local | with_reducible exact sk_F_addSlot | with_reducible exact sk_F_addVariable | with_reducible exact sk_F_isTooWide | with_reducible exact sk_F_named | with_reducible exact sk_F_slotOf | with_reducible exact sk_F_bad | with_reducible exact sk_G_expression | with_reducible exact sk_G_spot | with_reducible exact sk_G_body | with_reducible exact sk_G_stat | with_reducible exact sk_B_part_438 | (with_reducible refine sk_B_part_414 ?_ <;> assumption) | with_reducible exact sk_LP_part_414 _ _ | (with_reducible refine sk_B_part_396 ?_ <;> assumption) | with_reducible exact sk_LP_part_396 _ _ | with_reducible exact sk_B_part_355 | (with_reducible refine sk_B_part_338 ?_ <;> assumption) | with_reducible exact sk_LP_part_338 _ _ | with_reducible exact sk_B_part_300 | with_reducible exact sk_B_part_138 | with_reducible exact sk_B_part_125 | with_reducible exact sk_B_part_93 | with_reducible exact sk_B_part_85 | with_reducible exact sk_B_part_72 | with_reducible exact sk_B_part_61 | with_reducible exact sk_B_part_22 | with_reducible exact sk_B_part_0 | with_reducible exact sk_F_part))
      · rw [hl3, b4, tI_eq, e16]
        omega
      · rw [b4] at hk
        refine pq_ok (fun _ => pq_pc ?_)
        have x69 : ¬ x.1 69 = 0 := by rw [hX.1 69 (by decide)]; exact hj
        have wR2 : cR (xmI w (169 * q + T) 5 kr) 2 = q := by
          show w.2.2.2.2.2.2.2.2.2.2 2 = q
          rw [hN.2.2.2.2.2.2.2.2.1]
          exact t9
        rw [wR2]
        refine pq_ok (fun _ => pq_pc ?_)
        rw [if_neg (by decide)]
        have hwc : (24 * x.1 56 + 8 + u.2.2.1 37 s).toInt = (24 * s + 8 + (u.2.2.1 37 s).toInt.toNat : Nat) := (m24 (by rw [hX.1 56 (by decide)]; exact t6) t7 k37 (by omega)).2.2
        refine jx_r (y_part (TLr_re hX h') x69 (n_of hwc) (Or.inr ⟨rfl, rfl⟩) (fun y hP => ?_))
        unfold B_part_300
        refine pp_pu (jx_l ?_)
        obtain ⟨y1, F, y2⟩ := IT_open (kd := kr) hIT hT (Or.inr ⟨rfl, rfl, rfl, rfl, by omega, by rfl, k37, z3, rfl⟩) nr f1 f2 hN (by rw [c4]; exact hX) hwc hP hC' (TLr_re hX h')
        have hX' : TLr u x G 4 (pA v q 9 (4 : Int32).toNatClampNeg) i := by
          rw [show (4 : Int32).toNatClampNeg = 4 by decide, c4]
          exact hX
        have hbk : bk w (169 * q + T) s = 24 * s + 8 + (u.2.2.1 37 s).toInt.toNat := by
          unfold bk
          rw [if_neg (by rw [hoa.1.2.2.2.2.1]; decide), hN.2.2.2.2.2.2.2.2.2.2.2.2.2, c4]
          rfl
        exact rest (24 * s + 8 + (u.2.2.1 37 s).toInt.toNat) _ _ (by unfold bQ; rw [if_neg (by decide)]) ⟨T + 1, G + 1, 0, F, y1, y2, (by exact (tkC_ty (NGc_tk hN) : tyF w = tyF v))⟩ (WXq_open t1 hT t9 hC hR hoa.1 hoa.2 hN.2.2.2.2.2.2.2.2.2.2.2.1.2.2.2.2.2.2.2.2.2.1 hX' hP (Or.inr rfl) (Or.inr rfl) hbk)
    by_cases y : u.2.2.1 37 s = 16
    · rw [if_pos y]
      exact jx_l (main 1 ⟨fun z => absurd z (by decide), fun z => absurd y z⟩)
    · rw [if_neg y]
      exact jx_l (main 0 ⟨fun _ => y, fun _ => rfl⟩)
end N9a
/-! Items with the code told: tasks. -/
section N10g
variable {α β γ γ0 : Type} {X : Option (Sum Nat β × CSt)} {A : β → CSt → γ → RSt → Prop}
/-- a step of the reference with what it alone leaves -/
theorem jx_bnq {Y0 : Option (γ0 × RSt)} {k' : γ0 → RSt → Option (γ × RSt)} {P : γ0 → RSt → Prop} (hP : ∀ r x, Y0 = some (r, x) → P r x) (h : jx X (bn Y0 (fun r x => @ite _ (P r x) (Classical.propDecidable _) (k' r x) none)) A) : jx X (bn Y0 k') A := by
  have e : bn Y0 (fun r x => @ite _ (P r x) (Classical.propDecidable _) (k' r x) none) = bn Y0 k' := by
    unfold bn
    cases hx : Y0 with
    | none => rfl
    | some a =>
      obtain ⟨r, x⟩ := a
      exact if_pos (hP r x hx)
  rw [← e]
  exact h
theorem jx_ifR {Y : Option (γ × RSt)} {P : Prop} (h : P → jx X Y A) : jx X (@ite _ P (Classical.propDecidable _) Y none) A := by
  by_cases z : P
  · rw [if_pos z]; exact h z
  · rw [if_neg z]; exact fun _ _ _ _ _ e => nomatch e
theorem KP_gd {P : Prop} {a : Option (γ × RSt)} {u : RSt} (h : KP a u) : KP (@ite _ P (Classical.propDecidable _) a none) u := KP_if h KP_none
end N10g
theorem CXc_sm {z z2 : CSt} {q : Nat} {κ : KC} (h : CXc z q κ) (hs : smf z z2) : CXc z2 q κ := by
  obtain ⟨d1, d2, d3, d4, d5, d6, d7⟩ := h
  have e := hs.2
  refine ⟨?_, ?_, ?_, ?_, ?_, (hs.1 14 (by decide)).trans d6, (hs.1 15 (by decide)).trans d7⟩
  · show (z2.2.2.2.2.1 q 13).toInt = _
    rw [e]; exact d1
  · show (fun s => (z2.2.2.2.2.2.1 q 11 s, z2.2.2.2.2.2.1 q 12 s, z2.2.2.2.2.2.1 q 13 s)) = _
    rw [e]; exact d2
  · show (z2.2.2.2.2.1 q 14).toInt = _
    rw [e]; exact d3
  · show (fun s => (z2.2.2.2.2.2.2.1 q 15 s, z2.2.2.2.2.2.2.1 q 16 s)) = _
    rw [e]; exact d4
  · show z2.2.2.1 233 = _
    rw [e]; exact d5
section N10a
variable {v w : CSt} {u x : RSt} {i j o l n q s T G N t b nm i0 : Nat} {e : E5} {c : R5} {κ : KC} {δ : KRc} {ev af st l1 l2 : Int32} {ty : Nat → Int32}
theorem k3_tbec {β : Type} {Q : β → CSt → Prop} {k : Int32 → CSt → Option (β × CSt)} (kk : ∀ w', TBc w w' t ev af → tI w' t 2 = st → w'.2.2.2.2.2.2.1 = w.2.2.2.2.2.2.1 → pq (k 0 w') Q) : pq (bc (F_X7_become N t ev af st w) k) Q := by
  refine pq_bc ?_
  unfold F_X7_become B_X7_become_0
  refine pq_pc (pq_pc (pq_pc (pq_pc (pq_pc (pq_pc (pq_pc (pq_pc (pq_pc (pq_pc (pq_some (kk _ ?_ ?_ rfl)))))))))))
  · obtain ⟨h1, h2, h3, h4, h5, h6, h7, h8⟩ := BT9_f (k := 9) (a := 0) (BT9_f (k := 8) (a := 0) (BT9_f (k := 7) (a := 0) (BT9_f (k := 6) (a := 0) (BT9_f (k := 5) (a := 0) (BT9_f (k := 4) (a := 0) (BT9_f (k := 3) (a := 0) (BT9_f (k := 2) (a := st) (BT9_f (k := 1) (a := af) (BT9_f (k := 0) (a := ev) (BT9_rf (w := w) (t := t)))))))))))
    refine ⟨h1, h2, h3, h4, h5, h6, h7, h8, ?_, ?_, fun j hj => ?_⟩
    · (repeat (rw [tI_at, if_neg (by decide)])); rw [tI_at, if_pos rfl]
    · (repeat (rw [tI_at, if_neg (by decide)])); rw [tI_at, if_pos rfl]
    · simp only [List.mem_cons, List.not_mem_nil, or_false] at hj
      rcases hj with z | z | z | z | z | z | z <;> (rw [z]; (repeat (rw [tI_at, if_neg (by decide)])); rw [tI_at, if_pos rfl])
  · (repeat (rw [tI_at, if_neg (by decide)])); rw [tI_at, if_pos rfl]
theorem w_task {Q : Int32 → RSt → Prop} (h' : RE x x j o l c) (hj : ¬ x.1 69 = 0) (hb : l1.toNatClampNeg = b) (hn : l2.toNatClampNeg = nm) (kk : ∀ y, TKr x y b nm ev af → y.2.2.1 45 = upd (x.2.2.1 45) b (8000 * x.1 56 + x.2.2.1 54 (x.1 56).toNatClampNeg) → pp (B_tasked_213 N y) Q) : pp (B_tasked_125 N l1 l2 ev af x) Q := by
  unfold B_tasked_125
  refine pp_pu (pp_pu ?_)
  refine pp_if (fun z => absurd z hj) (fun _ => pp_if (fun _ => ?_) (fun z => absurd h'.2.1 z))
  refine pp_wr (pp_wr (pp_bn ?_))
  unfold F_here B_here_0
  refine pp_rd (pp_some (pp_wr (pp_rd (pp_wr (pp_rd (pp_wr (pp_rd (pp_wr (kk _ ?_ ?_)))))))))
  · rw [← hb, ← hn]
    refine ⟨fun k hk => ?_, rfl, rfl, fun k hk => ?_, fun k hk => ?_, rfl, rfl, rfl, rfl, rfl⟩
    · simp only [List.mem_cons, List.not_mem_nil, or_false, not_or] at hk
      show (sI (sI x 70 1) 74 0).1 k = _
      rw [sI_1, if_neg hk.2, sI_1, if_neg hk.1]
    · simp only [List.mem_cons, List.not_mem_nil, or_false, not_or] at hk
      rw [sA_3, if_neg hk.2.2.2]
      show (sA (sA (sA _ 43 _ _) 44 _ _) 45 _ _).2.2.1 k = _
      rw [sA_3, if_neg hk.2.2.1, sA_3, if_neg hk.2.1, sA_3, if_neg hk.1]
      rfl
    · simp only [List.mem_cons, List.not_mem_nil, or_false, not_or] at hk
      show (sB (sB _ 46 _ _) 47 _ _).2.2.2 k = _
      rw [sB_4, if_neg hk.2, sB_4, if_neg hk.1]
      rfl
  · rw [← hb]
    rfl
/-- behind a task's body; v, u before the task, v1, u1 before its body -/
def TBX (N q s n T : Nat) (v : CSt) (u : RSt) (κ : KC) (δ : KRc) (i0 j : Nat) : Int32 → CSt → Int32 → RSt → Prop := fun _ w _ x => ∃ (v1 : CSt) (u1 : RSt) (k0 : Nat), (mI v1 (169 * q + T) 2 = 2 ∧ (mI v1 (169 * q + T) 4).toInt = (k0 : Int) ∧ k0 < 8) ∧ (pI v1 q 12).toInt = (T : Int) + 1 ∧ cI v1 12 = cI v 12 ∧ nbs (S0q T) v v1 ∧ tI v1 (8 * q + k0) 2 = pI v q 13 ∧ (∀ p k, p ≠ 8 * q + k0 → tI v1 p k = tI v p k) ∧ u1.2.2.1 45 = upd (u.2.2.1 45) (8 * s + k0) (Int32.ofNat δ.1) ∧ u1.2.2.1 32 = u.2.2.1 32 ∧ k0 = (u.2.2.1 48 s).toInt.toNat ∧ RBo N q s (T + 1) v1 u1 κ δ 0 0 (fun _ => 0) 0 i0 j w x
/-- a task, from its NAME on -/
theorem jw_cyc (hIT : IT v u q s n i 0 T G) (hO : OWN0 v u q) (hC0 : CXc v q κ) (hR0 : CXr u δ) (hQ : KQn s i0 κ δ) (hi0 : i0 ≤ i) (hX0 : INX v q T) (h8 : OP8 v q) (hD : oS (oT (tyF v) 128) (oS (oT (tyF v) 10) (oS (oT (tyF v) 129) (oF (fun i => tyF v i = 11) (oN (oS (oT (tyF v) 129) (dBo (tyF v) 25))) (dBo (tyF v) 25)))) i (.inr j)) (hi : i ≤ n) : jx (F_X3_cyclic N v) (bn (F_is N 1 u) fun r_43 u_42 => if r_43 = (0 : Int32) then (bn (F_stuck N u_42) fun _ u_50 => some (0, u_50)) else (rd (u_42.2.2.1 48) 2 (u_42.1 56) fun v_45 => rd (u_42.2.2.1 48) 2 (u_42.1 56) fun v_47 => if v_47 = (8 : Int32) then (B_tasked_53 N 2 v_45 1 u_42) else (B_tasked_53 N 2 v_45 0 u_42))) (TBX N q s n T v u κ δ i0 j) := by
  obtain ⟨hV, h, h', h16, hTR, hT2⟩ := id hIT
  obtain ⟨t1, t2, t3, t4, t5, t5', t6, t7, t8, t9, t10, t11, t12, t13, t14, t15, t16, t17⟩ := id hTR
  obtain ⟨s1, s2, s3, s4, s5, s6, s7⟩ := id hT2
  obtain ⟨c0, c1, c2, c3, c4, c5, c6, c7, c8, c9, c10⟩ := id s2
  obtain ⟨k1, p1, p2⟩ := oS_r hD
  obtain ⟨tt, rfl⟩ := oT_r p1
  obtain ⟨k2, p3, p4⟩ := oS_r p2
  obtain ⟨tv, rfl⟩ := oT_r p3
  obtain ⟨k3, p5, p6⟩ := oS_r p4
  obtain ⟨tn, rfl⟩ := oT_r p5
  have hil : i < n := hV.lt hi (by rw [tt]; exact nEnd (by decide) (by decide) (by decide))
  have hi1 : i + 1 < n := hV.lt (i := i + 1) hil (by rw [tv]; exact nEnd (by decide) (by decide) (by decide))
  have hi2 : i + 1 + 1 < n := hV.lt (i := i + 1 + 1) hi1 (by rw [tn]; exact nEnd (by decide) (by decide) (by decide))
  have hj := hV.2.2.2.2.1
  have hn2 := hV.2.1.2.2
  have e8 : (8 : Int32).toInt = 8 := by decide
  have e1 : (1 : Int32).toInt = 1 := by decide
  have e0 : (0 : Int32).toInt = 0 := by decide
  have e1000 : (1000 : Int32).toInt = 1000 := by decide
  have b2 : (bt_1.getD 2 0).toInt = 8 := by decide
  have k48 : (u.2.2.1 48 s).toInt = ((u.2.2.1 48 s).toInt.toNat : Nat) := by omega
  refine jx_r (y_is hV.2.1 (t := 128) (by decide +kernel) h' hi (fun _ => ?_) (fun y => absurd tt y))
  rw [if_neg (by decide)]
  refine pp_rd (pp_rd ?_)
  rw [n_of t6]
  have main : ∀ l3 : Int32, (l3 = 0 ↔ ¬ u.2.2.1 48 s = 8) → jx (F_X3_cyclic N v) (B_tasked_53 N 2 (u.2.2.1 48 s) l3 u) (TBX N q s n T v u κ δ i0 j) := by
    intro l3 hl3
    unfold F_X3_cyclic B_X3_cyclic_0 B_tasked_53
    refine jx_bq (P := fun r w => OAq v r 2 w ∧ kcq v w) (fun r w e => ⟨E_new _ _ e r rfl, ncx_F_X3_newName _ _ e⟩) ?_
    refine j_newG (so := 2) (sn := 2) (k0 := (u.2.2.1 48 s).toInt.toNat) hV hTR h h' hil tt (by decide) (by omega) (by rw [c2]; exact k48) (by omega) (fun _ => ?_) (fun w x hT hk f1 f2 hN hC hX => jx_ifP (fun hoa => ?_)) (fun _ _ => by repeat' (first | exact KP_some kp_rf | with_reducible refine KP_bn ?_ (fun _ _ => ?_) | with_reducible refine KP_if ?_ ?_ | with_reducible refine KP_rd (fun _ => ?_) | with_reducible refine KP_zr ?_ | (with_reducible refine KP_pu2 ?_ ?_; first | exact ks_sI (by decide) kp_rf | exact ks_sL kp_rf | exact ks_sA (by decide) kp_rf | exact ks_sB (by decide) kp_rf) | (with_reducible refine KP_wr2 ?_ ?_; first | exact ks_sA (by decide) kp_rf | exact ks_sB (by decide) kp_rf) | with_reducible exact h_ro _ _ _ _ | with_reducible exact sk_F_is | with_reducible exact sk_F_take | with_reducible exact sk_F_emit | with_reducible exact sk_F_wrong | with_reducible exact sk_F_cost | with_reducible exact sk_F_stuck | with_reducible exact sk_F_ends | with_reducible exact sk_F_begins | with_reducible exact sk_F_opens | with_reducible exact sk_F_has | with_reducible exact sk_F_isNumber | with_reducible exact sk_F_isNext | with_reducible exact sk_F_push | with_reducible exact sk_F_lead | with_reducible exact sk_F_here | with_reducible exact sk_F_kind | with_reducible exact sk_F_isKind | with_reducible exact sk_F_own | with_reducible exact sk_F_constant | with_reducible exact sk_F_bounded | with_reducible exact sk_F_joined | with_reducible exact sk_F_strength | with_reducible exact sk_F_leadAll | with_reducible exact sk_F_loop | with_reducible exact sk_F_label | with_reducible exact sk_F_leaves | with_reducible exact sk_F_telling | with_reducible exact sk_F_local | with_reducible exact sk_F_addSlot | with_reducible exact sk_F_addVariable | with_reducible exact sk_F_isTooWide | with_reducible exact sk_F_named | with_reducible exact sk_F_slotOf | with_reducible exact sk_F_bad | with_reducible exact sk_G_expression | with_reducible exact sk_G_spot | with_reducible exact sk_G_body | with_reducible exact sk_G_stat | with_reducible exact sk_B_tasked_213 | with_reducible exact sk_B_tasked_125 | with_reducible exact sk_B_tasked_53 | with_reducible exact sk_B_tasked_0 | with_reducible exact sk_F_tasked))
    · rw [hl3, b2, tI_eq, e8]
      omega
    · rw [b2] at hk
      have hr0 : RE x x i 0 0 (eR u) := TLr_re hX h'
      have hVw : EV1 w x n := hV.tr (NGc_tk hN) (TLr_tk hX)
      have tyw : tyF w = tyF v := tkC_ty (NGc_tk hN)
      have nr := (hV.2.2.1 i hil).2.2.2.2 tt
      have x56 : (x.1 56).toInt = (s : Int) := by rw [hX.1 56 (by decide)]; exact t6
      have x48 : x.2.2.1 48 = u.2.2.1 48 := hX.2.2.1 48 (by decide)
      have w10 : cR w 3 = q := by
        show w.2.2.2.2.2.2.2.2.2.2 3 = q
        rw [hN.2.2.2.2.2.2.2.2.1]
        exact t10
      have hCw : CXc w q κ := CXc_fr hC0 hoa.2
      have hRx : CXr x δ := CXr_of hR0 (hX.1 56 (by decide)) (fun k hk => hX.2.2.1 k (fun z => by simp only [List.mem_cons, List.not_mem_nil, or_false] at hk z; omega)) (fun k hk => hX.2.2.2.1 k (fun z => by simp only [List.mem_cons, List.not_mem_nil, or_false] at hk z; omega))
      refine pq_ok (fun _ => k3_next hVw.1 (CF_of hC w10 hCw) hi1 (fun w1 g1 => ?_))
      refine jx_r (pp_rd ?_)
      rw [n_of x56, x48]
      have hl1 : (8 * x.1 56 + u.2.2.1 48 s).toInt = (8 * s + (u.2.2.1 48 s).toInt.toNat : Nat) := m8 x56 t7 k48 (by omega)
      have hl2 : (x.1 65).toNatClampNeg = i := hr0.nat
      -- behind every, after: the task is put, its body
      have fin : ∀ (w5 : CSt) (x5 : RSt) (ev af : Int32) (k : Nat) (e5 : E5) (c5 : R5), CE w w5 k 0 e5 → e5.1 = 0 → CXc w5 q κ → RE x x5 k 0 0 c5 → CXr x5 δ → (1 ≤ ev.toInt ∧ ev.toInt ≤ 1000 ∧ 0 ≤ af.toInt ∧ af.toInt < ev.toInt) → dBo (tyF v) 25 k (.inr j) → i0 ≤ k → k ≤ n → jx (B_X3_cyclic_61 N (169 * q + T) ev af w5) (B_tasked_125 N (8 * x.1 56 + u.2.2.1 48 s) (x.1 65) ev af x5) (TBX N q s n T v u κ δ i0 j) := by
        intro w5 x5 ev af k e5 c5 g5 h5 hC5 r5 hR5 hev hDb hi5 hkn
        have m4 : mI w5 (169 * q + T) 4 = u.2.2.1 48 s := by rw [g5.nm, hN.2.2.2.2.2.2.2.2.2.2.2.2.2]; exact c2
        have y69 : ¬ x5.1 69 = 0 := by rw [r5.sc (by decide), hX.1 69 (by decide)]; exact hj
        have wR : cR w5 2 = q := by
          rw [g5.rf]
          show w.2.2.2.2.2.2.2.2.2.2 2 = q
          rw [hN.2.2.2.2.2.2.2.2.1]
          exact t9
        unfold B_X3_cyclic_61
        rw [m4, if_neg (fun y => by have := Int32.le_iff_toInt_le.mp y; omega), wR, n_of k48]
        refine pq_ok (fun _ => pq_ix (fun _ => k3_tbec (fun w6 hB h62 h6B => ?_)))
        refine jx_r (w_task (RE_b r5) y69 (n_of hl1) hl2 (fun y hA h45 => jx_l ?_))
        obtain ⟨z1, z2, z3⟩ := IT_task hV hTR hT2 hO hT k48 (by omega) nr f1 f2 hN hX g5.1 hB hev hA (CE_b g5) h5 r5
        rw [← z3] at hDb
        obtain ⟨q1, q2, q3, q4, q5, q6, q7, q8, q9, q10, q11⟩ := hB
        obtain ⟨a1, a2, a3, a4, a5, a6, a7, a8, a9⟩ := hoa.1
        have hC6 : CXc w6 q κ := by
          obtain ⟨d1, d2, d3, d4, d5, d6, d7⟩ := hC5
          refine ⟨?_, ?_, ?_, ?_, ?_, ?_, ?_⟩
          · show (w6.2.2.2.2.1 q 13).toInt = _
            rw [q5]; exact d1
          · show (fun s => (w6.2.2.2.2.2.1 q 11 s, w6.2.2.2.2.2.1 q 12 s, w6.2.2.2.2.2.1 q 13 s)) = _
            rw [q6]; exact d2
          · show (w6.2.2.2.2.1 q 14).toInt = _
            rw [q5]; exact d3
          · show (fun s => (w6.2.2.2.2.2.2.1 q 15 s, w6.2.2.2.2.2.2.1 q 16 s)) = _
            rw [h6B]; exact d4
          · show w6.2.2.1 233 = _
            rw [q3]; exact d5
          · show w6.1 14 = _
            rw [q1]; exact d6
          · show w6.1 15 = _
            rw [q1]; exact d7
        have mm : ∀ m k, mI w6 m k = mI w m k := fun m k => by
          rw [← g5.nm]
          show w6.2.2.2.2.2.2.2.2.1 m k = w5.2.2.2.2.2.2.2.2.1 m k
          rw [q7]
        have ll : ∀ m k, mL w6 m k = mL w m k := fun m k => by
          rw [← g5.nl]
          show w6.2.2.2.2.2.2.2.2.2.1 m k = w5.2.2.2.2.2.2.2.2.2.1 m k
          rw [q7]
        have hRy : CXr y δ := CXr_of hR5 (hA.1 56 (by decide)) (fun k hk => hA.2.2.2.1 k (fun z => by simp only [List.mem_cons, List.not_mem_nil, or_false] at hk z; omega)) (fun k hk => hA.2.2.2.2.1 k (fun z => by simp only [List.mem_cons, List.not_mem_nil, or_false] at hk z; omega))
        have c12 : cI w6 12 = cI v 12 := by
          have y1 : cI w6 12 = cI w5 12 := congrFun q1 12
          rw [y1, g5.1.1 12 (by decide)]
          exact a6
        have nS : nbs (S0q T) v w6 := fun m k hm => by
          have nm : m ≠ 169 * q + T := fun z => by rcases hm with y | y <;> (rw [z] at y; omega)
          rw [mm, ll]
          exact a4 m k nm
        have hX6 : INX w6 q (T + 1) := by
          intro y hy h1 r hr
          have hyT : y < T := by
            rcases Nat.lt_or_ge y T with z | z
            · exact z
            · have ey : y = T := by omega
              rw [ey, mm, a5] at h1
              exact absurd h1 (by decide)
          have nm : ∀ y k, y < T → mI w6 (169 * q + y) k = mI v (169 * q + y) k := fun y k hy => (nS (169 * q + y) k (Or.inl (by omega))).1
          rw [nm y 2 hyT] at h1
          rw [nm y 14 hyT] at hr
          obtain ⟨k', r', j1, j2, j3, j4, -⟩ := t17 y hyT h1
          have er : r' = r := by omega
          subst er
          rw [nm y 9 hyT, nm r' 7 j3, c12]
          exact hX0 y hyT h1 r' hr
        have h86 : OP8 w6 q := fun k hk => ((nS (169 * q + (160 + k)) 4 (Or.inr (by omega))).1).trans (h8 k hk)
        refine jx_m (jc_tbody z1 z2 hDb hkn hC6 hRy hQ hi5 hX6 h86 (NTk_of z1.1)) (fun b w7 r7 x7 hz => ⟨w6, y, (u.2.2.1 48 s).toInt.toNat, ⟨?_, ?_, by omega⟩, ?_, c12, nS, ?_, fun p k hp => ?_, ?_, ?_, rfl, hz⟩)
        · rw [mm]; exact a5
        · rw [mm, ← g5.nm, m4]; exact k48
        · have y1 : pI w6 q 12 = pI w5 q 12 := congrFun (congrFun q5 q) 12
          rw [y1, g5.pi q (by decide)]
          rw [t9, t1] at a1
          exact a1
        · rw [h62]
          have y1 : pI w5 q 13 = pI v q 13 := tI_eq.mpr (by rw [hC5.1, hC0.1])
          exact y1
        · rw [q8 p k hp]
          have y1 : tI w5 p k = tI w p k := by
            show w5.2.2.2.2.2.2.2.1 p k = w.2.2.2.2.2.2.2.1 p k
            rw [g5.1.2.2.2.2.2]
          rw [y1]
          show w.2.2.2.2.2.2.2.1 p k = v.2.2.2.2.2.2.2.1 p k
          rw [hoa.2.2.2.2.1]
        · rw [h45, r5.row (by decide), hX.2.2.1 45 (by decide)]
          obtain ⟨d1, d2, -⟩ := hR5
          have e8000 : (8000 : Int32).toInt = 8000 := by decide
          have mu : (8000 * x5.1 56).toInt = 8000 * (x5.1 56).toInt := by rw [tI_mul (by rw [e8000]; omega) (by rw [e8000]; omega), e8000]
          obtain ⟨b1, b2', b3⟩ := hQ
          have : (8000 * x5.1 56 + x5.2.2.1 54 (x5.1 56).toNatClampNeg).toInt = (δ.1 : Int) := by
            rw [tI_add (by rw [mu]; omega) (by rw [mu]; omega), mu]
            omega
          rw [ofN_of this]
        · rw [hA.2.2.2.1 32 (by decide), r5.row (by decide), hX.2.2.1 32 (by decide)]
      have e16 : (eC v).1 = 0 := h16
      refine w_adv (RF_of hr0 hRx) (by omega) (fun x1 r1 => ?_)
      refine w_take hVw.2.1 (t := 10) (by decide +kernel) r1 hi1 (by rw [tyw]; exact tv) (fun x2 r2 => jx_l ?_)
      refine jx_bq (P := fun _ z => smf w1 z) (fun r z e => nsm_F_X9_takeBounded _ _ e) (jx_bnq (P := fun _ z => rcq x2 z) (fun r z e => ncy_F_bounded _ _ e) ?_)
      refine i_bounded hVw g1.1 r2.1 hi2 (by rw [tyw]; exact tn) (by decide) (by decide) (fun y w3 x3 y1 y2 g3 r3 => jx_ifP (fun hs3 => jx_ifR (fun hq3 => ?_))) (fun _ _ => KP_gd (by repeat' (first | exact KP_some kp_rf | with_reducible refine KP_bn ?_ (fun _ _ => ?_) | with_reducible refine KP_if ?_ ?_ | with_reducible refine KP_rd (fun _ => ?_) | with_reducible refine KP_zr ?_ | (with_reducible refine KP_pu2 ?_ ?_; first | exact ks_sI (by decide) kp_rf | exact ks_sL kp_rf | exact ks_sA (by decide) kp_rf | exact ks_sB (by decide) kp_rf) | (with_reducible refine KP_wr2 ?_ ?_; first | exact ks_sA (by decide) kp_rf | exact ks_sB (by decide) kp_rf) | with_reducible exact h_ro _ _ _ _ | with_reducible exact sk_F_is | with_reducible exact sk_F_take | with_reducible exact sk_F_emit | with_reducible exact sk_F_wrong | with_reducible exact sk_F_cost | with_reducible exact sk_F_stuck | with_reducible exact sk_F_ends | with_reducible exact sk_F_begins | with_reducible exact sk_F_opens | with_reducible exact sk_F_has | with_reducible exact sk_F_isNumber | with_reducible exact sk_F_isNext | with_reducible exact sk_F_push | with_reducible exact sk_F_lead | with_reducible exact sk_F_here | with_reducible exact sk_F_kind | with_reducible exact sk_F_isKind | with_reducible exact sk_F_own | with_reducible exact sk_F_constant | with_reducible exact sk_F_bounded | with_reducible exact sk_F_joined | with_reducible exact sk_F_strength | with_reducible exact sk_F_leadAll | with_reducible exact sk_F_loop | with_reducible exact sk_F_label | with_reducible exact sk_F_leaves | with_reducible exact sk_F_telling | with_reducible exact sk_F_local | with_reducible exact sk_F_addSlot | with_reducible exact sk_F_addVariable | with_reducible exact sk_F_isTooWide | with_reducible exact sk_F_named | with_reducible exact sk_F_slotOf | with_reducible exact sk_F_bad | with_reducible exact sk_G_expression | with_reducible exact sk_G_spot | with_reducible exact sk_G_body | with_reducible exact sk_G_stat | with_reducible exact sk_B_tasked_213 | with_reducible exact sk_B_tasked_125 | with_reducible exact sk_B_tasked_53 | with_reducible exact sk_B_tasked_0 | with_reducible exact sk_F_tasked)))
      obtain ⟨ye, ya, yb⟩ := b64_32 (a := 1) (b := 1000) y1 y2
      rw [e1] at ya
      rw [e1000] at yb
      have hC3 : CXc w3 q κ := CXc_sm (g1.cx w10) hs3
      have hR3 : CXr x3 δ := CXr_fr r2.cx hq3
      rcases oF_r p6 with ⟨z, q6⟩ | ⟨z, q6⟩
      · have z' : tyF w (i + 1 + 1 + 1) = 11 := by rw [tyw]; exact z
        have hi3 : i + 1 + 1 + 1 < n := hVw.lt (i := i + 1 + 1 + 1) hi2 (by rw [z']; exact nEnd (by decide) (by decide) (by decide))
        obtain ⟨k4, q7, q8⟩ := oS_r (show oS (oT (tyF v) 129) (dBo (tyF v) 25) (i + 1 + 1 + 1 + 1) (.inr j) from q6)
        obtain ⟨t9', rfl⟩ := oT_r q7
        have hi4 : i + 1 + 1 + 1 + 1 < n := hV.lt (i := i + 1 + 1 + 1 + 1) hi3 (by rw [t9']; exact nEnd (by decide) (by decide) (by decide))
        refine k2_if g3 (fun _ => ?_) (fun y => absurd z' y)
        refine k3_next hVw.1 (CF_of g3 w10 hC3) hi3 (fun w4 g4 => ?_)
        refine jx_r (w_has hVw.2.1 (t := 11) (by decide +kernel) (nEnd (by decide) (by decide) (by decide)) (RF_of r3 hR3) hi2 (fun _ _ x4 r4 => ?_) (fun y => absurd z' y))
        rw [if_neg (by decide)]
        refine jx_l ?_
        refine jx_bq (P := fun _ z => smf w4 z) (fun r z e => nsm_F_X9_takeBounded _ _ e) (jx_bnq (P := fun _ z => rcq x4 z) (fun r z e => ncy_F_bounded _ _ e) ?_)
        refine i_bounded hVw g4.1 r4.1 hi4 (by rw [tyw]; exact t9') (by decide) rfl (fun y' w5 x5 y1' y2' g5 r5 => jx_ifP (fun hs5 => jx_ifR (fun hq5 => ?_))) (fun _ _ => KP_gd (by repeat' (first | exact KP_some kp_rf | with_reducible refine KP_bn ?_ (fun _ _ => ?_) | with_reducible refine KP_if ?_ ?_ | with_reducible refine KP_rd (fun _ => ?_) | with_reducible refine KP_zr ?_ | (with_reducible refine KP_pu2 ?_ ?_; first | exact ks_sI (by decide) kp_rf | exact ks_sL kp_rf | exact ks_sA (by decide) kp_rf | exact ks_sB (by decide) kp_rf) | (with_reducible refine KP_wr2 ?_ ?_; first | exact ks_sA (by decide) kp_rf | exact ks_sB (by decide) kp_rf) | with_reducible exact h_ro _ _ _ _ | with_reducible exact sk_F_is | with_reducible exact sk_F_take | with_reducible exact sk_F_emit | with_reducible exact sk_F_wrong | with_reducible exact sk_F_cost | with_reducible exact sk_F_stuck | with_reducible exact sk_F_ends | with_reducible exact sk_F_begins | with_reducible exact sk_F_opens | with_reducible exact sk_F_has | with_reducible exact sk_F_isNumber | with_reducible exact sk_F_isNext | with_reducible exact sk_F_push | with_reducible exact sk_F_lead | with_reducible exact sk_F_here | with_reducible exact sk_F_kind | with_reducible exact sk_F_isKind | with_reducible exact sk_F_own | with_reducible exact sk_F_constant | with_reducible exact sk_F_bounded | with_reducible exact sk_F_joined | with_reducible exact sk_F_strength | with_reducible exact sk_F_leadAll | with_reducible exact sk_F_loop | with_reducible exact sk_F_label | with_reducible exact sk_F_leaves | with_reducible exact sk_F_telling | with_reducible exact sk_F_local | with_reducible exact sk_F_addSlot | with_reducible exact sk_F_addVariable | with_reducible exact sk_F_isTooWide | with_reducible exact sk_F_named | with_reducible exact sk_F_slotOf | with_reducible exact sk_F_bad | with_reducible exact sk_G_expression | with_reducible exact sk_G_spot | with_reducible exact sk_G_body | with_reducible exact sk_G_stat | with_reducible exact sk_B_tasked_213 | with_reducible exact sk_B_tasked_125 | with_reducible exact sk_B_tasked_53 | with_reducible exact sk_B_tasked_0 | with_reducible exact sk_F_tasked)))
        obtain ⟨ye', ya', yb'⟩ := b64_32 (a := 0) (b := y.toInt32 - 1) y1' y2'
        have em : (y.toInt32 - 1).toInt = y.toInt - 1 := by rw [tI_sub (by omega) (by omega), e1, ye]
        rw [e0] at ya'
        exact fin w5 x5 y.toInt32 y'.toInt32 _ _ _ g5 e16 (CXc_sm (g4.cx w10) hs5) r5 (CXr_fr r4.cx hq5) ⟨by omega, by omega, by omega, by omega⟩ q8 (by omega) hi4
      · have z' : ¬ tyF w (i + 1 + 1 + 1) = 11 := by rw [tyw]; exact z
        refine k2_if g3 (fun y => absurd y z') (fun _ => ?_)
        refine jx_r (w_has hVw.2.1 (t := 11) (by decide +kernel) (nEnd (by decide) (by decide) (by decide)) (RF_of r3 hR3) hi2 (fun y => absurd y z') (fun _ => ?_))
        rw [if_pos rfl]
        exact jx_l (fin w3 x3 y.toInt32 0 _ _ _ g3 e16 hC3 r3 hR3 ⟨by omega, by omega, by rw [e0]; omega, by rw [e0]; omega⟩ q6 (by omega) hi2)
  by_cases y : u.2.2.1 48 s = 8
  · rw [if_pos y]
    exact jx_l (main 1 ⟨fun z => absurd z (by decide), fun z => absurd y z⟩)
  · rw [if_neg y]
    exact jx_l (main 0 ⟨fun _ => y, fun _ => rfl⟩)
end N10a
/-! The code of a program: every routine and task runs alike in both. -/
def BDq (N : Nat) (v : CSt) (u : RSt) (q s T md sz : Nat) (fk : Nat → Int32) (rk : Int32) (e e' : Nat) : Prop := ∃ (Φ : CSt → RSt → Nat → (Nat → Int32) → Nat → Prop) (κ κ' : KC) (δ δ' : KRc), SNG N (Φ, md, sz, fk) κ κ' δ δ' 340 rk ∧ (∀ vF uF g gk n, PHI N v q s T vF uF g gk n → Φ vF uF g gk n) ∧ (κ.1 = e ∧ δ.1 = e') ∧ (κ.1 ≤ κ'.1 ∧ κ'.1 ≤ 3100) ∧ ((κ'.1 : Int) ≤ (pI v q 13).toInt ∧ ∀ x, x < κ'.1 → (pA v q 11 x, pA v q 12 x, pA v q 13 x) = κ'.2.1 x) ∧ ((κ'.2.2.1 : Int) ≤ (pI v q 14).toInt ∧ ∀ x, x < κ'.2.2.1 → (pB v q 15 x, pB v q 16 x) = κ'.2.2.2.1 x) ∧ (8000 * s ≤ δ.1 ∧ δ'.1 ≤ 8000 * s + 7900 ∧ (δ'.1 : Int) ≤ (u.2.2.1 54 s).toInt + 8000 * (s : Int)) ∧ ∀ x, x < δ'.1 → δ.1 ≤ x → (u.2.2.1 49 x, u.2.2.1 50 x, u.2.2.1 51 x, u.2.2.2 52 x, u.2.2.2 53 x) = δ'.2.1 x
def CI3 (N : Nat) (v : CSt) (u : RSt) (q s T y : Nat) : Prop := (mI v (169 * q + y) 2 = 3 ∨ mI v (169 * q + y) 2 = 4) → ∀ K : Nat, (mI v (169 * q + y) 12).toInt = (K : Int) → PSr v q y ∧ ∃ e e' : Nat, (mI v (169 * q + y) 13).toInt = (e : Int) ∧ (u.2.2.1 32 (bk v (169 * q + y) s)).toInt = (e' : Int) ∧ BDq N v u q s T (if mI v (169 * q + y) 2 = 3 then 1 else 2) (mI v (169 * q + y) 7).toInt.toNat (fkq v q y K) (mI v (169 * q + y) 5) e e'
def CI2 (N : Nat) (v : CSt) (u : RSt) (q s T y : Nat) : Prop := mI v (169 * q + y) 2 = 2 → ∃ e e' : Nat, (tI v (8 * q + (mI v (169 * q + y) 4).toNatClampNeg) 2).toInt = (e : Int) ∧ (u.2.2.1 45 (8 * s + (mI v (169 * q + y) 4).toNatClampNeg)).toInt = (e' : Int) ∧ BDq N v u q s T 0 0 (fun _ => 0) 0 e e'
def CIv (N : Nat) (v : CSt) (u : RSt) (q s T : Nat) : Prop := ∀ y, y < T → CI3 N v u q s T y ∧ CI2 N v u q s T y
/-- between two Items: the code -/
def XT (N q s : Nat) (v : CSt) (u : RSt) (i : Nat) : Prop := ∃ (T : Nat) (κ : KC) (δ : KRc), (pI v q 12).toInt = (T : Int) ∧ CXc v q κ ∧ CXr u δ ∧ (KQn s i κ δ ∧ 8000 * s ≤ δ.1) ∧ (∃ gk, GKq v q gk) ∧ CIv N v u q s T ∧ OP8 v q
section N11a
variable {v w : CSt} {u x : RSt} {i j o l n q s T T' G N r K F P i0 : Nat} {e : E5} {c : R5} {κ κ' : KC} {δ δ' : KRc} {ty : Nat → Int32} {gk : Nat → Int32}
/-- what later names add -/
theorem PHI_mo1 {vF : CSt} {uF : RSt} {g m : Nat} (t16 : TRr v u q s T) (t17 : TRi v u q s T) (hn : ∀ y k, y < T → mI w (169 * q + y) k = mI v (169 * q + y) k) (hT : T ≤ T') (h : PHI N w q s T' vF uF g gk m) : PHI N v q s T vF uF g gk m := by
  obtain ⟨a1, a2, a3, a4, a5⟩ := h
  refine ⟨a1, fun y hy h0 hh j hj => ?_, fun y hy h1 r hr k hk j hj => ?_, fun y hy h4 => ?_, fun y hy h1 => ?_⟩
  · have := a2 y (by omega)
    rw [hn y 2 hy, hn y 6 hy, hn y 7 hy, hn y 9 hy, hn y 5 hy] at this
    exact this h0 hh j hj
  · obtain ⟨k0, r', k1, k2, k3, k4, k5, -⟩ := t17 y hy h1
    have er : r' = r := by omega
    subst er
    obtain ⟨K, F, P, hR, -⟩ := t16 r' k3 (Or.inl k5)
    have hK := hR.2.2.2.1
    have hKT := hR.2.2.2.2.1
    have := a3 y (by omega) (by rw [hn y 2 hy]; exact h1) r' (by rw [hn y 14 hy]; exact hr) k (by rw [hn r' 12 k3]; exact hk) j (by rw [hn (r' + 1 + k) 7 (by omega)]; exact hj)
    rw [hn y 9 hy, hn (r' + 1 + k) 9 (by omega), hn (r' + 1 + k) 5 (by omega)] at this
    exact this
  · obtain ⟨K, F, P, hR, -⟩ := t16 y hy (Or.inr h4)
    have hKT := hR.2.2.2.2.1
    have hP := hR.2.2.2.2.2.2.2.2.2.2.1
    have hPK := hR.2.2.2.2.2.2.2.2.2.2.2.1
    have := a4 y (by omega) (by rw [hn y 2 hy]; exact h4)
    rw [hn y 3 hy, hn y 4 hy, hn y 11 hy, hn y 5 hy] at this
    refine FNC_pk this (fun i hi => ?_)
    have hi : i < (mI v (169 * q + y) 11).toNatClampNeg := hi
    rw [n_of hP] at hi
    exact (hn (y + 1 + i) 5 (by omega)).symm
  · have := a5 y (by omega) (by rw [hn y 2 hy]; exact h1)
    rw [hn y 3 hy, hn y 4 hy] at this
    exact this
theorem PHI_mo {vF : CSt} {uF : RSt} {g m : Nat} (hTR : TR v u q s T G) (hn : ∀ y k, y < T → mI w (169 * q + y) k = mI v (169 * q + y) k) (hT : T ≤ T') (h : PHI N w q s T' vF uF g gk m) : PHI N v q s T vF uF g gk m := by
  obtain ⟨t1, t2, t3, t4, t5, t5', t6, t7, t8, t9, t10, t11, t12, t13, t14, t15, t16, t17⟩ := hTR
  exact PHI_mo1 t16 t17 hn hT h
theorem BDq_mo {md sz e1 e2 : Nat} {fk : Nat → Int32} {rk : Int32} (hTR : TR v u q s T G) (hn : ∀ y k, y < T → mI w (169 * q + y) k = mI v (169 * q + y) k) (hT : T ≤ T') (hC : CXc v q κ) (hC' : CXc w q κ') (hk : KP2 κ κ') (hR : CXr u δ) (hR' : CXr x δ') (h56 : x.1 56 = u.1 56) (hr : RP2 δ δ') (h : BDq N v u q s T md sz fk rk e1 e2) : BDq N w x q s T' md sz fk rk e1 e2 := by
  obtain ⟨Φ, κ1, κ2, δ1, δ2, h1, h2, h3, h4, ⟨h5, h6⟩, ⟨h7, h8⟩, ⟨h9, h10, h11⟩, h12⟩ := h
  have t6 := hTR.2.2.2.2.2.2.1
  have n56 : (u.1 56).toNatClampNeg = s := n_of t6
  obtain ⟨k1, k2, k3, k4⟩ := hk
  obtain ⟨r1, r2⟩ := hr
  have uc : (u.2.2.1 54 s).toInt + 8000 * (s : Int) = (δ.1 : Int) := by
    have := hR.2.1
    rw [n56, t6] at this
    exact this
  have xc : (x.2.2.1 54 s).toInt + 8000 * (s : Int) = (δ'.1 : Int) := by
    have := hR'.2.1
    rw [h56, n56, t6] at this
    exact this
  have c1 := hC.1
  have c1' := hC'.1
  have c3 := hC.2.2.1
  have c3' := hC'.2.2.1
  refine ⟨Φ, κ1, κ2, δ1, δ2, h1, fun vF uF g gk n hz => h2 vF uF g gk n (PHI_mo hTR hn hT hz), h3, h4, ⟨by omega, fun y hy => ?_⟩, ⟨by omega, fun y hy => ?_⟩, ⟨h9, h10, by omega⟩, fun y hy hy2 => ?_⟩
  · have a := congrFun hC.2.1 y
    have b := congrFun hC'.2.1 y
    rw [← h6 y hy]
    exact b.trans ((k2 y (by omega)).trans a.symm)
  · have a := congrFun hC.2.2.2.1 y
    have b := congrFun hC'.2.2.2.1 y
    rw [← h8 y hy]
    exact b.trans ((k4 y (by omega)).trans a.symm)
  · have a := congrFun hR.2.2.1 y
    have b := congrFun hR'.2.2.1 y
    rw [← h12 y hy hy2]
    exact b.trans ((r2 y (by omega)).trans a.symm)
theorem fkq_cg (h : OFF v q r K) (hn : ∀ j k, j < K → mI w (169 * q + (r + 1 + j)) k = mI v (169 * q + (r + 1 + j)) k) (h' : OFF w q r K) : fkq w q r K = fkq v q r K := by
  funext c
  by_cases hex : ∃ j, j < K ∧ (mI v (169 * q + (r + 1 + j)) 9).toInt ≤ (c : Int) ∧ (c : Int) < (mI v (169 * q + (r + 1 + j)) 9).toInt + (mI v (169 * q + (r + 1 + j)) 7).toInt
  · obtain ⟨j, j1, j2, j3⟩ := hex
    rw [fkq_at h j1 j2 j3, fkq_at h' j1 (by rw [hn j 9 j1]; exact j2) (by rw [hn j 9 j1, hn j 7 j1]; exact j3), hn j 5 j1]
  · have hex' : ¬ ∃ j, j < K ∧ (mI w (169 * q + (r + 1 + j)) 9).toInt ≤ (c : Int) ∧ (c : Int) < (mI w (169 * q + (r + 1 + j)) 9).toInt + (mI w (169 * q + (r + 1 + j)) 7).toInt := by
      rintro ⟨j, j1, j2, j3⟩
      rw [hn j 9 j1] at j2 j3
      rw [hn j 7 j1] at j3
      exact hex ⟨j, j1, j2, j3⟩
    unfold fkq fkG
    rw [dif_neg hex, dif_neg hex']
theorem OFF_cg (h : OFF v q r K) (hn : ∀ y k, r ≤ y → y ≤ r + K → mI w (169 * q + y) k = mI v (169 * q + y) k) : OFF w q r K := by
  obtain ⟨f, f1, f2, f3, f4⟩ := h
  refine ⟨f, f1, ?_, f3, fun j hj => ?_⟩
  · rw [hn r 7 (Nat.le_refl _) (by omega)]; exact f2
  · rw [hn (r + 1 + j) 7 (by omega) (by omega), hn (r + 1 + j) 9 (by omega) (by omega)]
    exact f4 j hj
/-- routines and tasks told before -/
theorem CI_mo (hTR : TR v u q s T G) (hT2 : TR2 v u q s T) (h : CIv N v u q s T) (hn : ∀ y k, y < T → mI w (169 * q + y) k = mI v (169 * q + y) k) (hT : T ≤ T') (hC : CXc v q κ) (hC' : CXc w q κ') (hk : KP2 κ κ') (hR : CXr u δ) (hR' : CXr x δ') (h56 : x.1 56 = u.1 56) (hr : RP2 δ δ') (h32 : ∀ y, y < T → (mI v (169 * q + y) 2 = 3 ∨ mI v (169 * q + y) 2 = 4) → x.2.2.1 32 (bk v (169 * q + y) s) = u.2.2.1 32 (bk v (169 * q + y) s)) (h45 : ∀ y, y < T → mI v (169 * q + y) 2 = 2 → x.2.2.1 45 (8 * s + (mI v (169 * q + y) 4).toNatClampNeg) = u.2.2.1 45 (8 * s + (mI v (169 * q + y) 4).toNatClampNeg) ∧ tI w (8 * q + (mI v (169 * q + y) 4).toNatClampNeg) 2 = tI v (8 * q + (mI v (169 * q + y) 4).toNatClampNeg) 2) : ∀ y, y < T → CI3 N w x q s T' y ∧ CI2 N w x q s T' y := by
  obtain ⟨t1, t2, t3, t4, t5, t5', t6, t7, t8, t9, t10, t11, t12, t13, t14, t15, t16, t17⟩ := id hTR
  obtain ⟨s1, s2, s3, s4, s5, s6, s7⟩ := hT2
  intro y hy
  obtain ⟨a1, a2⟩ := h y hy
  refine ⟨fun hs K hK => ?_, fun hs => ?_⟩
  · rw [hn y 2 hy] at hs
    rw [hn y 12 hy] at hK
    obtain ⟨K', F, P, hRR, -⟩ := t16 y hy hs
    have eK : K' = K := by have := hRR.2.2.2.1; omega
    subst eK
    have hKT := hRR.2.2.2.2.1
    have hP := hRR.2.2.2.2.2.2.2.2.2.2.1
    have hPK := hRR.2.2.2.2.2.2.2.2.2.2.2.1
    obtain ⟨b1, e1, e2, b2, b3, b4⟩ := a1 hs K' hK
    have eb : bk w (169 * q + y) s = bk v (169 * q + y) s := by
      unfold bk
      rw [hn y 2 hy, hn y 4 hy]
    have hO := s7 y hy hs K' hK
    have hO' : OFF w q y K' := OFF_cg hO (fun z k z1 z2 => hn z k (by omega))
    refine ⟨fun i hi => ?_, e1, e2, by rw [hn y 13 hy]; exact b2, by rw [eb, h32 y hy hs]; exact b3, ?_⟩
    · rw [hn y 11 hy] at hi
      rw [hn (y + 1 + i) 7 (by omega)]
      exact b1 i hi
    · rw [hn y 2 hy, hn y 7 hy, hn y 5 hy, fkq_cg hO (fun j k hj => hn (y + 1 + j) k (by omega)) hO']
      exact BDq_mo hTR hn hT hC hC' hk hR hR' h56 hr b4
  · rw [hn y 2 hy] at hs
    obtain ⟨e1, e2, b2, b3, b4⟩ := a2 hs
    obtain ⟨c1, c2⟩ := h45 y hy hs
    refine ⟨e1, e2, ?_, ?_, BDq_mo hTR hn hT hC hC' hk hR hR' h56 hr b4⟩
    · rw [hn y 4 hy, c2]; exact b2
    · rw [hn y 4 hy, c1]; exact b3
theorem S0_nm (hn : nbs (S0q T) v w) (hT : T ≤ 160) : ∀ y k, y < T → mI w (169 * q + y) k = mI v (169 * q + y) k := fun y k hy => (hn (169 * q + y) k (Or.inl (by omega))).1
theorem S0_8 (hn : nbs (S0q T) v w) (h : OP8 v q) : OP8 w q := fun k hk => ((hn (169 * q + (160 + k)) 4 (Or.inr (by omega))).1).trans (h k hk)
/-- Items without code; tokens are passed over -/
theorem XT_st (hIT : IT v u q s n i o T G) (hX : XT N q s v u i) (hn : nbs (S0q T) v w) (hTw : (pI w q 12).toInt = (T' : Int)) (hTT : T ≤ T') (hC : ∀ κ, CXc v q κ → CXc w q κ) (hR : ∀ δ, CXr u δ → CXr x δ) (h56 : x.1 56 = u.1 56) (hA : ∀ k, k ∈ [32, 45] → x.2.2.1 k = u.2.2.1 k) (ht : ∀ p, tI w p 2 = tI v p 2) (hg : ∃ gk, GKq w q gk) (hs : ∀ y, T ≤ y → y < T' → mI w (169 * q + y) 2 = 0 ∨ mI w (169 * q + y) 2 = 1) (hij : i ≤ j) : XT N q s w x j := by
  obtain ⟨T0, κ, δ, h1, h2, h3, ⟨⟨b1, b2, b3⟩, b4⟩, -, h5, h6⟩ := hX
  have hTR := hIT.2.2.2.2.1
  have eT : T = T0 := by have := hTR.1; omega
  subst eT
  refine ⟨T', κ, δ, hTw, hC κ h2, hR δ h3, ⟨⟨by omega, by omega, by omega⟩, b4⟩, hg, fun y hy => ?_, S0_8 hn h6⟩
  by_cases hy0 : y < T
  · exact CI_mo hTR hIT.2.2.2.2.2 h5 (S0_nm hn hTR.2.1) hTT h2 (hC κ h2) KP2_rf h3 (hR δ h3) h56 RP2_rf (fun y _ _ => by rw [hA 32 (by decide)]) (fun y _ _ => ⟨by rw [hA 45 (by decide)], ht _⟩) y hy0
  · have := hs y (by omega) hy
    refine ⟨fun z => ?_, fun z => ?_⟩
    · rcases this with t | t <;> (rw [t] at z; rcases z with z | z <;> exact absurd z (by decide))
    · rcases this with t | t <;> (rw [t] at z; exact absurd z (by decide))
theorem XT_mv (hIT : IT v u q s n i o T G) (hX : XT N q s v u i) (hc : CE v w j l e) (hC : ∀ κ, CXc v q κ → CXc w q κ) {o2 l2 : Nat} {c2 : R5} (hr : RE u x j o2 l2 c2) (hR : ∀ δ, CXr u δ → CXr x δ) (hij : i ≤ j) : XT N q s w x j := by
  obtain ⟨-, -, -, -, -, -, -, ⟨gk, hg⟩, -, -⟩ := id hX
  refine XT_st (T' := T) hIT hX (fun m k _ => ⟨hc.nm m k, hc.nl m k⟩) (by rw [hc.pi q (by decide)]; exact hIT.2.2.2.2.1.1) (Nat.le_refl _) hC hR (hr.sc (by decide)) (fun k hk => hr.row (fun z => by simp only [List.mem_cons, List.not_mem_nil, or_false] at hk z; omega)) (fun p => ?_) ⟨gk, hg.ce hc⟩ (fun y h1 h2 => by omega) hij
  show w.2.2.2.2.2.2.2.1 p 2 = v.2.2.2.2.2.2.2.1 p 2
  rw [hc.1.2.2.2.2.2]
theorem PHI_eq {v1 : CSt} (h : mI w = mI v1) : PHI N w q s T = PHI N v1 q s T := by
  unfold PHI
  rw [h]
theorem CXr.le (h : CXr u δ) (h56 : (u.1 56).toInt = (s : Int)) : (u.2.2.1 54 s).toInt + 8000 * (s : Int) = (δ.1 : Int) := by
  have := h.2.1
  rw [n_of h56, h56] at this
  exact this
/-- what RBo gives of a body -/
theorem RBo_bd {v1 : CSt} {u1 : RSt} {md sz : Nat} {fk : Nat → Int32} {rk : Int32} (hB : RBo N q s T v1 u1 κ δ md sz fk rk i0 j w x) (h56 : (x.1 56).toInt = (s : Int)) (hs : s < 2) (hQ : KQn s i0 κ δ) (hd : 8000 * s ≤ δ.1) (hj : j ≤ 1500) (hij : i0 ≤ j) : BDq N w x q s T md sz fk rk κ.1 δ.1 := by
  obtain ⟨κ', δ', b1, b2, b3, b4, b5, ⟨b6, b7, b8⟩, b9, b10, b11, b12, b13, b14⟩ := hB
  obtain ⟨q1, q2, q3⟩ := hQ
  have c1 := b1.1
  have c3 := b1.2.2.1
  have d1 := b2.le h56
  have r1 := b5.1
  have k1 := b4.1
  refine ⟨PHI N v1 q s T, κ, κ', δ, δ', b3, fun vF uF g gk n hz => by rw [← PHI_eq b9]; exact hz, ⟨rfl, rfl⟩, ⟨k1, by omega⟩, ⟨by omega, fun y _ => congrFun b1.2.1 y⟩, ⟨by omega, fun y _ => congrFun b1.2.2.2.1 y⟩, ⟨hd, by omega, by omega⟩, fun y _ _ => congrFun b2.2.2.1 y⟩
/-- a block, a function -/
theorem XT_rout {ty' : Nat → Int32} {so kd b r' : Int32} {bq : Nat} (hIT : IT v u q s n i o T G) (hT0 : (pI v q 12).toInt = (T : Int)) (h2 : CXc v q κ) (h3 : CXr u δ) (hQ : KQn s i κ δ) (hd : 8000 * s ≤ δ.1) (hg : GKq v q gk) (h5 : CIv N v u q s T) (h6 : OP8 v q) (hbq : bq = bQ u s so) (hso : so = 3 ∨ so = 4) (hB : RBX N ty' q s n bq T v u κ δ so kd (upd (u.2.2.1 32) bq (Int32.ofNat δ.1)) i j b w r' x) (hx56 : x.1 56 = u.1 56) (hjn : j ≤ n) (hij : i ≤ j) : XT N q s w x j := by
  obtain ⟨v1, u1, i1, T1, G1, K, F, P, hI1, hO1, hW, hRB⟩ := hB
  obtain ⟨hV, -, -, -, hTR, hT2⟩ := id hIT
  have hn2 := hV.2.1.2.2
  have t6 := hTR.2.2.2.2.2.2.1
  have t7 := hTR.2.2.2.2.2.2.2.1
  have t2 := hTR.2.1
  have x56 : (x.1 56).toInt = (s : Int) := by rw [hx56]; exact t6
  have hbd := RBo_bd hRB x56 t7 hQ hd (by omega) hij
  obtain ⟨κ', δ', b1, b2, b3, b4, b5, ⟨b6, b7, b8⟩, b9, b10, b11, b12, b13, b14⟩ := id hRB
  obtain ⟨a1, a2, a3, a4, a5, a6, a7, a8, a9, a10, a11, a12⟩ := hW
  obtain ⟨o1, o2, o3, o4, o5, -⟩ := id hO1
  have T160 : T < 160 := by have := hI1.2.2.2.2.1.2.1; omega
  have mw : ∀ m k, ¬ k = 13 → mI w m k = mI v1 m k := fun m k hk => by rw [b9]; exact mI_ne (Or.inr hk)
  have m13 : mI w (169 * q + T) 13 = pI v1 q 13 := by rw [b9]; exact h_mI
  have nS : nbs (S0q T) v w := fun m k hm => by
    have nm : m ≠ 169 * q + T := fun z => by rcases hm with y | y <;> (rw [z] at y; omega)
    refine ⟨?_, ?_⟩
    · rw [b9, mI_ne (Or.inl nm)]; exact (a11 m k hm).1
    · rw [b10]; exact (a11 m k hm).2
  have nm := S0_nm (q := q) nS t2
  have hT1 : (pI w q 12).toInt = (T1 : Int) := by rw [b13]; exact hI1.2.2.2.2.1.1
  have hTT : T ≤ T1 := by omega
  have w12 : cI w 12 = cI v 12 := b12.trans a4
  have s5 : ∀ y, T < y → y < T1 → mI w (169 * q + y) 2 = 5 ∨ mI w (169 * q + y) 2 = 6 := by
    intro y y1 y2
    have := (o4.2.2.2.2.2.2.2.2.2.2.2.2.2.2.2.1 (y - (T + 1)) (by omega)).1
    have ey : T + 1 + (y - (T + 1)) = y := by omega
    rw [ey] at this
    rw [mw _ 2 (by decide), this]
    split
    · exact Or.inl rfl
    · exact Or.inr rfl
  have sT : mI w (169 * q + T) 2 = so := by rw [mw _ 2 (by decide)]; exact a6
  obtain ⟨q1, q2, q3⟩ := id hQ
  refine ⟨T1, κ', δ', hT1, b1, b2, ⟨⟨by omega, by omega, by omega⟩, by have := b5.1; omega⟩, ⟨gk, GK_st hTR hT2 hg nm (by rw [w12]; exact Int.le_refl _) (fun _ _ => rfl) (fun y y1 y2 => ?_) (by omega) (fun c c1 c2 => by rw [w12] at c2; omega)⟩, fun y hy => ?_, S0_8 nS h6⟩
  · rcases Nat.eq_or_lt_of_le y1 with z | z
    · rw [← z]
      refine ⟨fun t => ?_, fun t => ?_⟩
      · rw [sT] at t; rcases hso with z | z <;> (rw [z] at t; exact absurd t (by decide))
      · rw [sT] at t; rcases hso with z | z <;> (rw [z] at t; exact absurd t (by decide))
    · have := s5 y z (by omega)
      refine ⟨fun t => ?_, fun t => ?_⟩
      · rcases this with z | z <;> (rw [z] at t; exact absurd t (by decide))
      · rcases this with z | z <;> (rw [z] at t; exact absurd t (by decide))
  · have eb : bk w (169 * q + T) s = bq := by
      rw [← a12]
      unfold bk
      rw [mw _ 2 (by decide), mw _ 4 (by decide)]
    have x32 : x.2.2.1 32 = upd (u.2.2.1 32) bq (Int32.ofNat δ.1) := (b14 32 (by decide)).trans a10
    rcases Nat.lt_trichotomy y T with z | z | z
    · refine CI_mo hTR hT2 h5 nm hTT h2 b1 b4 h3 b2 hx56 b5 (fun y y1 y2 => ?_) (fun y y1 y2 => ⟨?_, ?_⟩) y z
      · rw [x32]
        refine if_neg (fun ez => ?_)
        obtain ⟨K', F', P', hR', n3, n4⟩ := hTR.2.2.2.2.2.2.2.2.2.2.2.2.2.2.2.2.1 y y1 y2
        have c1 := hR'.1
        have c2 := hR'.2.2.1
        have d1 := o4.1
        have d2 := o4.2.1
        have d3 := o4.2.2.1
        have hq2 : bq = bk v1 (169 * q + T) s := a12.symm
        have cn := nat_cl c1
        have dn := nat_cl d1
        have e16 := (id hT2).2.1
        obtain ⟨g0, g1, g2, g3, g4, g5, g6, g7, g8, g9, g10⟩ := e16
        rw [hbq] at ez hq2
        unfold bQ at ez hq2
        unfold bk at ez hq2
        rw [a6] at hq2 d3
        rcases hso with zo | zo
        · rw [zo, if_pos rfl] at ez
          rw [zo, if_pos rfl, if_pos rfl] at hq2
          have d3 := d3 zo
          rcases y2 with z2 | z2
          · rw [if_pos z2] at ez
            have := n3 z2
            omega
          · rw [if_neg (by rw [z2]; decide)] at ez
            omega
        · rw [zo, if_neg (show ¬ (4 : Int32) = 3 by decide)] at ez
          rcases y2 with z2 | z2
          · rw [if_pos z2] at ez
            have := c2 z2
            omega
          · rw [if_neg (by rw [z2]; decide)] at ez
            have := n4 z2
            omega
      · rw [b14 45 (by decide), a9]
      · show w.2.2.2.2.2.2.2.1 _ 2 = v.2.2.2.2.2.2.2.1 _ 2
        rw [b11]
        show v1.2.2.2.2.2.2.2.1 _ 2 = _
        rw [a5]
    · subst z
      refine ⟨fun _ K2 hK2 => ?_, fun t => ?_⟩
      · have eK : K2 = K := by
          rw [mw _ 12 (by decide)] at hK2
          have := o4.2.2.2.1
          omega
        subst eK
        have hOF := hI1.2.2.2.2.2.2.2.2.2.2.2 y (by omega) o3 K2 o4.2.2.2.1
        have hOF' : OFF w q y K2 := by
          obtain ⟨f, f1, f2, f3, f4⟩ := hOF
          exact ⟨f, f1, by rw [mw _ 7 (by decide)]; exact f2, f3, fun j hj => by rw [mw _ 7 (by decide), mw _ 9 (by decide)]; exact f4 j hj⟩
        refine ⟨fun i hi => ?_, κ.1, δ.1, ?_, ?_, ?_⟩
        · rw [mw _ 11 (by decide)] at hi
          rw [mw _ 7 (by decide)]
          exact a8 i hi
        · rw [m13]; exact a1.1
        · rw [eb, x32]
          show (if bq = bq then Int32.ofNat δ.1 else _).toInt = _
          rw [if_pos rfl]
          exact ofN_t (by omega)
        · have e7 : mI w (169 * q + y) 7 = mI v1 (169 * q + y) 7 := mw _ 7 (by decide)
          have e5 : mI w (169 * q + y) 5 = mI v1 (169 * q + y) 5 := mw _ 5 (by decide)
          have efk : fkq w q y K2 = fkq v1 q y K2 := by
            funext c
            unfold fkq
            simp only [mw _ 9 (by decide), mw _ 7 (by decide), mw _ 5 (by decide)]
          rw [sT, e7, e5, efk]
          exact hbd
      · rw [sT] at t
        rcases hso with z | z <;> (rw [z] at t; exact absurd t (by decide))
    · have := s5 y z hy
      refine ⟨fun t => ?_, fun t => ?_⟩
      · rcases this with z | z <;> (rw [z] at t; rcases t with t | t <;> exact absurd t (by decide))
      · rcases this with z | z <;> (rw [z] at t; exact absurd t (by decide))
/-- a task -/
theorem XT_task {b r' : Int32} (hIT : IT v u q s n i o T G) (h2 : CXc v q κ) (h3 : CXr u δ) (hQ : KQn s i κ δ) (hd : 8000 * s ≤ δ.1) (hg : GKq v q gk) (h5 : CIv N v u q s T) (h6 : OP8 v q) (hB : TBX N q s n T v u κ δ i j b w r' x) (hx56 : x.1 56 = u.1 56) (hjn : j ≤ n) (hij : i ≤ j) : XT N q s w x j := by
  obtain ⟨v1, u1, k0, ⟨m2, m4, m8⟩, mT, m12, nS1, mt, mto, m45, m32, mk, hRB⟩ := hB
  obtain ⟨hV, -, -, -, hTR, hT2⟩ := id hIT
  have hn2 := hV.2.1.2.2
  have t6 := hTR.2.2.2.2.2.2.1
  have t7 := hTR.2.2.2.2.2.2.2.1
  have t2 := hTR.2.1
  have x56 : (x.1 56).toInt = (s : Int) := by rw [hx56]; exact t6
  have hbd := RBo_bd hRB x56 t7 hQ hd (by omega) hij
  obtain ⟨κ', δ', b1, b2, b3, b4, b5, ⟨b6, b7, b8⟩, b9, b10, b11, b12, b13, b14⟩ := id hRB
  have nS : nbs (S0q T) v w := fun m k hm => ⟨by rw [b9]; exact (nS1 m k hm).1, by rw [b10]; exact (nS1 m k hm).2⟩
  have nm := S0_nm (q := q) nS t2
  have hT1 : (pI w q 12).toInt = ((T + 1 : Nat) : Int) := by rw [b13]; omega
  have w12 : cI w 12 = cI v 12 := b12.trans m12
  have sT : mI w (169 * q + T) 2 = 2 := by rw [b9]; exact m2
  have tw : ∀ p k, tI w p k = tI v1 p k := fun p k => by
    show w.2.2.2.2.2.2.2.1 p k = v1.2.2.2.2.2.2.2.1 p k
    rw [b11]
  obtain ⟨q1, q2, q3⟩ := id hQ
  refine ⟨T + 1, κ', δ', hT1, b1, b2, ⟨⟨by omega, by omega, by omega⟩, by have := b5.1; omega⟩, ⟨gk, GK_st hTR hT2 hg nm (by rw [w12]; exact Int.le_refl _) (fun _ _ => rfl) (fun y y1 y2 => ?_) (by omega) (fun c c1 c2 => by rw [w12] at c2; omega)⟩, fun y hy => ?_, S0_8 nS h6⟩
  · have ey : y = T := by omega
    subst ey
    refine ⟨fun t => ?_, fun t => ?_⟩
    · rw [sT] at t; exact absurd t (by decide)
    · rw [sT] at t; exact absurd t (by decide)
  · by_cases z : y < T
    · refine CI_mo hTR hT2 h5 nm (Nat.le_succ _) h2 b1 b4 h3 b2 hx56 b5 (fun y _ _ => by rw [b14 32 (by decide), m32]) (fun y y1 y2 => ?_) y z
      have f2 := ((id hT2).2.2.2.2.1 y y1).1 y2
      have c1 := hTR.2.2.2.2.2.2.2.2.2.2.2.2.1 y y1 (by unfold gl; rw [y2]; decide)
      have cn := nat_cl c1
      have ne : (mI v (169 * q + y) 4).toNatClampNeg ≠ k0 := by have := f2.1; omega
      refine ⟨?_, ?_⟩
      · rw [b14 45 (by decide), m45]
        exact if_neg (by omega)
      · rw [tw]
        exact mto _ 2 (by omega)
    · have ey : y = T := by omega
      subst ey
      have e4 : (mI w (169 * q + y) 4).toNatClampNeg = k0 := by rw [b9]; exact n_of m4
      refine ⟨fun t => ?_, fun _ => ⟨κ.1, δ.1, ?_, ?_, hbd⟩⟩
      · rw [sT] at t; rcases t with t | t <;> exact absurd t (by decide)
      · rw [e4, tw, mt]; exact h2.1
      · rw [e4, b14 45 (by decide), m45]
        show (if 8 * s + k0 = 8 * s + k0 then Int32.ofNat δ.1 else _).toInt = _
        rw [if_pos rfl]
        exact ofN_t (by omega)
end N11a
/-! All Items, with the code told. -/
def IQX (N : Nat) (ty : Nat → Int32) (q s n j : Nat) : Int32 → CSt → Int32 → RSt → Prop := fun _ w _ x => (IG ty q s n 0 w x j ∧ j ≤ n) ∧ XT N q s w x j
section N12a
variable {v w : CSt} {u x : RSt} {q s T G n i j o l N r : Nat} {e : E5} {c : R5} {κ κ0 : KC} {δ δ0 : KRc} {ty : Nat → Int32} {so kd f kr : Int32}
theorem CX_any (h0 : CXc v q κ0) (h1 : CXc w q κ0) : ∀ κ, CXc v q κ → CXc w q κ := by
  intro κ h
  obtain ⟨a1, a2, a3, a4, a5, a6, a7⟩ := h0
  obtain ⟨b1, b2, b3, b4, b5, b6, b7⟩ := h1
  obtain ⟨c1, c2, c3, c4, c5, c6, c7⟩ := h
  exact ⟨by omega, b2.trans (a2.symm.trans c2), by omega, b4.trans (a4.symm.trans c4), b5.trans (a5.symm.trans c5), b6.trans (a6.symm.trans c6), b7.trans (a7.symm.trans c7)⟩
theorem CR_any (h0 : CXr u δ0) (h1 : CXr x δ0) : ∀ δ, CXr u δ → CXr x δ := by
  intro δ h
  obtain ⟨a1, a2, a3, a4, a5⟩ := h0
  obtain ⟨b1, b2, b3, b4, b5⟩ := h1
  obtain ⟨c1, c2, c3, c4, c5⟩ := h
  exact ⟨b1, by omega, b3.trans (a3.symm.trans c3), b4.trans (a4.symm.trans c4), b5.trans (a5.symm.trans c5)⟩
theorem XT_pl {w1 : CSt} {k1 T0 : Nat} (hIT : IT v u q s n i o T0 G) (hX : XT N q s v u i) (hC : CXc v q κ) (g1 : CF v w1 (i + 1) l e κ) (f1 : kcq w1 w) (f2 : kb (S0q T0) w1 w) (f3 : rcq u x) (f4 : IGK T0 ty q s n 0 w x k1) (hij : i ≤ k1) : XT N q s w x k1 := by
  have t10 := hIT.2.2.2.2.1.2.2.2.2.2.2.2.2.2.2.1
  obtain ⟨⟨T', G', hIT', -⟩, hg, h1, h2⟩ := f4
  have t1' := hIT'.2.2.2.2.1.1
  refine XT_st (T' := T') hIT hX (fun m k hm => ⟨((f2.1 m k hm).1).trans (g1.nm m k), ((f2.1 m k hm).2).trans (g1.nl m k)⟩) t1' (by omega) (CX_any hC (CXc_fr (g1.cx t10) f1)) (fun δ h => CXr_fr h f3) (f3.1 56 (by decide)) (fun k hk => f3.2.1 k (by simp only [List.mem_cons, List.not_mem_nil, or_false] at hk; rcases hk with rfl | rfl <;> decide)) (fun p => ?_) hg (fun y a b => h2 y a (by omega)) hij
  show w.2.2.2.2.2.2.2.1 p 2 = v.2.2.2.2.2.2.2.1 p 2
  rw [f1.2.2.2.1, g1.1.1.2.2.2.2.2]
theorem jx_rout (hI : IG ty q s n 0 v u i) (hX : XT N q s v u i) (hD : dRout ty i (.inr j)) (hi : i ≤ n) (hij : i ≤ j) (hf : (so = 3 ∧ f = 0) ∨ (so = 4 ∧ f = 1 ∧ KD kd ∧ kr = kd)) : jx (F_X3_routine N so kd v) (B_part_22 N f kr u) (IQX N ty q s n j) := by
  obtain ⟨T, G, hIT, hO, rfl⟩ := id hI
  obtain ⟨T0, κ, δ, x1, x2, x3, ⟨x4, x5⟩, ⟨gk, x6⟩, x7, x8⟩ := id hX
  have eT : T0 = T := by have := hIT.2.2.2.2.1.1; omega
  subst eT
  refine jx_m (jx_and (j_routine hI hD hi hf) (jw_routine hIT hO x2 x3 x4 (Nat.le_refl _) (x6.inx x1) x8 hD hi hf)) ?_
  rintro b w r x ⟨hq, bq, hbq, hB⟩
  refine ⟨hq, XT_rout hIT x1 x2 x3 x4 x5 x6 x7 x8 hbq (by rcases hf with z | z; exact Or.inl z.1; exact Or.inr z.1) hB ?_ hq.2 hij⟩
  obtain ⟨⟨T', G', hIT', -⟩, -⟩ := hq
  exact tI_eq.mpr (by rw [hIT'.2.2.2.2.1.2.2.2.2.2.2.1, hIT.2.2.2.2.1.2.2.2.2.2.2.1])
theorem jx_cyc (hI : IG ty q s n 0 v u i) (hX : XT N q s v u i) (hD : oS (oT ty 128) (oS (oT ty 10) (oS (oT ty 129) (oF (fun i => ty i = 11) (oN (oS (oT ty 129) (dBo ty 25))) (dBo ty 25)))) i (.inr j)) (hi : i ≤ n) (hij : i ≤ j) : jx (F_X3_cyclic N v) (bn (F_is N 1 u) fun r_43 u_42 => if r_43 = (0 : Int32) then (bn (F_stuck N u_42) fun _ u_50 => some (0, u_50)) else (rd (u_42.2.2.1 48) 2 (u_42.1 56) fun v_45 => rd (u_42.2.2.1 48) 2 (u_42.1 56) fun v_47 => if v_47 = (8 : Int32) then (B_tasked_53 N 2 v_45 1 u_42) else (B_tasked_53 N 2 v_45 0 u_42))) (IQX N ty q s n j) := by
  obtain ⟨T, G, hIT, hO, rfl⟩ := id hI
  obtain ⟨T0, κ, δ, x1, x2, x3, ⟨x4, x5⟩, ⟨gk, x6⟩, x7, x8⟩ := id hX
  have eT : T0 = T := by have := hIT.2.2.2.2.1.1; omega
  subst eT
  refine jx_m (jx_and (j_cyc hI hD hi) (jw_cyc hIT hO x2 x3 x4 (Nat.le_refl _) (x6.inx x1) x8 hD hi)) ?_
  rintro b w r x ⟨hq, hB⟩
  refine ⟨hq, XT_task hIT x2 x3 x4 x5 x6 x7 x8 hB ?_ hq.2 hij⟩
  obtain ⟨⟨T', G', hIT', -⟩, -⟩ := hq
  exact tI_eq.mpr (by rw [hIT'.2.2.2.2.1.2.2.2.2.2.2.1, hIT.2.2.2.2.1.2.2.2.2.2.2.1])
/-- all Items -/
theorem jc_textT : ∀ d i j k v u M M', oWn (fun i => ¬ ty i = 0) (dItem ty) oE d i (.inr j) → IG ty q s n 0 v u i → XT N q s v u i → i ≤ n → k ≤ i → jx (LP_X3_make_57 N M (Int32.ofNat k, v)) (LP_text_0 N M' u) (IQX N ty q s n j) := by
  have e15 : (1500 : Int32).toInt = 1500 := by decide
  intro d
  induction d with
  | zero =>
    rintro i j k v u M M' ⟨z, hD⟩ hI hX hi hk
    obtain ⟨hV, h, h0, h', hty⟩ := IG_b.1 v u i hI
    have hj1 := oE_r hD
    subst hj1
    have z : ty j = 0 := Classical.not_not.mp z
    have z2 : tyF v j = 0 := by rw [hty]; exact z
    cases M with
    | zero => exact jx_n1 rfl
    | succ M =>
      cases M' with
      | zero => exact jx_n2 rfl
      | succ M' =>
        show jx (B_X3_make_57 N (LP_X3_make_57 N M) (Int32.ofNat k) v) (B_text_0 N (LP_text_0 N M') u) _
        unfold B_X3_make_57 B_text_0
        rw [if_pos h'.2.1]
        have ref : pp (bn (F_is N 5 u) fun r_3 u_2 => if r_3 = (0 : Int32) then (rd (u_2.2.2.1 2) 1502 (u_2.1 65) fun v_5 => if v_5 = 100 then (bn (F_variables N 0 0 u_2) fun _ u_8 => LP_text_0 N M' (u_8)) else (if v_5 = 101 then (bn (F_variables N 1 0 u_2) fun _ u_10 => LP_text_0 N M' (u_10)) else (if v_5 = 102 then (bn (F_image N 2 u_2) fun _ u_12 => LP_text_0 N M' (u_12)) else (if v_5 = 103 then (bn (F_image N 3 u_2) fun _ u_14 => LP_text_0 N M' (u_14)) else (if v_5 = 105 then (bn (F_part N 0 u_2) fun _ u_16 => LP_text_0 N M' (u_16)) else (if v_5 = 106 then (bn (F_use N u_2) fun _ u_18 => LP_text_0 N M' (u_18)) else (if v_5 = 107 then (bn (F_part N 1 u_2) fun _ u_20 => LP_text_0 N M' (u_20)) else (if v_5 = 108 then (bn (F_tasked N u_2) fun _ u_22 => LP_text_0 N M' (u_22)) else (bn (F_stuck N u_2) fun _ u_23 => LP_text_0 N M' (u_23)))))))))) else (some (0, u_2))) (fun r x => r = 0 ∧ x = u) := by
          refine y_is hV.2.1 (t := 0) (by decide +kernel) h' hi (fun _ => ?_) (fun y => absurd z2 y)
          rw [if_neg (by decide)]
          exact pp_some ⟨rfl, rfl⟩
        have fin : ∀ (p : Int32), jx (some (Sum.inr p, v)) _ (IQX N ty q s n j) := fun p => pq_some (pp_m ref (fun r x hx => Or.inr ⟨p, rfl, by rw [hx.2]; exact ⟨⟨hI, hi⟩, hX⟩⟩))
        refine pq_if (fun _ => fin 0) (fun _ => ?_)
        refine k2_is h (fun _ => ?_) (fun y => absurd z2 y)
        rw [if_neg (by decide)]
        exact fin 0
  | succ d ih =>
    rintro i j k v u M M' ⟨z, hD⟩ hI hX hi hk
    obtain ⟨hV, h, h0, h', hty⟩ := IG_b.1 v u i hI
    have z : ¬ ty i = 0 := z
    obtain ⟨k1, p1, p2⟩ := oS_r hD
    have z2 : ¬ tyF v i = 0 := by rw [hty]; exact z
    have hn2 := hV.2.1.2.2
    have hit : tyF v i = 1 ∨ tyF v i = 2 ∨ tyF v i = 3 ∨ tyF v i = 4 ∨ tyF v i = 6 ∨ tyF v i = 7 ∨ tyF v i = 8 ∨ tyF v i = 9 := by
      rw [hty]
      rcases oF_r p1 with ⟨y, -⟩ | ⟨-, q1⟩
      · rcases y with y | y
        · exact Or.inl y
        · exact Or.inr (Or.inl y)
      rcases oF_r q1 with ⟨y, -⟩ | ⟨-, q1⟩
      · rcases y with y | y
        · exact Or.inr (Or.inr (Or.inl y))
        · exact Or.inr (Or.inr (Or.inr (Or.inl y)))
      rcases oF_r q1 with ⟨y, -⟩ | ⟨-, q1⟩
      · exact Or.inr (Or.inr (Or.inr (Or.inr (Or.inl y))))
      rcases oF_r q1 with ⟨y, -⟩ | ⟨-, q1⟩
      · exact Or.inr (Or.inr (Or.inr (Or.inr (Or.inr (Or.inl y)))))
      rcases oF_r q1 with ⟨y, -⟩ | ⟨-, q1⟩
      · exact Or.inr (Or.inr (Or.inr (Or.inr (Or.inr (Or.inr (Or.inl y))))))
      rcases oF_r q1 with ⟨y, -⟩ | ⟨-, q1⟩
      · exact Or.inr (Or.inr (Or.inr (Or.inr (Or.inr (Or.inr (Or.inr y))))))
      exact (oR_r q1).elim
    have hil := hV.lt hi (by rcases hit with y | y | y | y | y | y | y | y <;> (rw [y]; exact nEnd (by decide) (by decide) (by decide)))
    have ki := ofN_i (k := k) (by omega)
    have hgt : i < k1 := pg_Item _ _ p1
    have sre : SRe (tyF v i) (u.2.2.1 2 i) := hV.2.1.1 i hi
    cases M with
    | zero => exact jx_n1 rfl
    | succ M =>
      cases M' with
      | zero => exact jx_n2 rfl
      | succ M' =>
        show jx (B_X3_make_57 N (LP_X3_make_57 N M) (Int32.ofNat k) v) (B_text_0 N (LP_text_0 N M') u) _
        unfold B_X3_make_57 B_text_0
        rw [if_pos h'.2.1, if_neg (fun y => by have := Int32.lt_iff_toInt_lt.mp y; rw [e15] at this; omega)]
        refine k2_is h (fun y => absurd y z2) (fun _ => ?_)
        rw [if_pos rfl]
        obtain ⟨T, G, hIT, hO, -⟩ := id hI
        obtain ⟨T0, κ, δ, x1, x2, x3, ⟨x4, x5⟩, x6, x7, x8⟩ := id hX
        have eT : T = T0 := by have := hIT.2.2.2.2.1.1; omega
        subst eT
        have t9 := hIT.2.2.2.2.1.2.2.2.2.2.2.2.2.2.1
        have t10 := hIT.2.2.2.2.1.2.2.2.2.2.2.2.2.2.2.1
        have hGX : GKX q T v := ⟨x6, by omega, fun y a b => by omega⟩
        refine k2_type h (k3_next hV.1 (CF_of h t10 x2) hil (fun w1 g1 => ?_))
        have q2 : cR w1 2 = q := (g1.rf 2).trans t9
        have hT1 : (pI w1 q 12).toInt = (T : Int) := by rw [g1.pi q (by decide)]; exact x1
        have pl : ∀ (w : CSt) (x : RSt), kcq w1 w → kb (S0q T) w1 w → rcq u x → IGK T ty q s n 0 w x k1 → XT N q s w x k1 := fun w x f1 f2 f3 f4 => XT_pl hIT hX x2 g1 f1 f2 f3 f4 (by omega)
        refine jx_r (y_is hV.2.1 (t := 0) (by decide +kernel) h' hi (fun y => absurd y z2) (fun _ => ?_))
        rw [if_pos rfl]
        refine y_rA h' (by decide) (jx_l ?_)
        have go : ∀ (b : Int32) (w : CSt) (r : Int32) (x : RSt), IQX N ty q s n k1 b w r x → jx (B_X3_make_205 N (LP_X3_make_57 N M) (Int32.ofNat k) w) (LP_text_0 N M' x) (IQX N ty q s n j) := by
          intro b w r x hq
          unfold B_X3_make_205
          rw [ofN1 (by omega)]
          exact ih k1 j (k + 1) w x M M' p2 hq.1.1 hq.2 hq.1.2 (by omega)
        have kp : ∀ (r : Int32) x, KP (LP_text_0 N M' x) x := fun _ x => sk_LP_text_0 _ _
        have sel : ∀ t so : Int32, (∀ p ∈ prs, (p.1 = t → p.2 = so)) → tyF v i = t → u.2.2.1 2 i = so := fun t so hd ht => hd (tyF v i, u.2.2.1 2 i) sre ht
        rcases oF_r p1 with ⟨y, q1⟩ | ⟨ny, q1⟩
        · rcases y with y | y
          · have y' : tyF v i = 1 := by rw [hty]; exact y
            rw [y', sel 1 100 (by decide +kernel) y', if_pos rfl, if_pos rfl]
            exact jx_bt (jx_m (jx_fr (P := fun w => kcq w1 w ∧ kb (S0q T) w1 w) (jc_vars (T0 := T) ⟨hI, hGX⟩ q1 hil (by omega) (Or.inl rfl) g1.1) (fun b w e => ⟨ncx_F_X3_variables _ _ e, hb_vars (S := S0q T) (Or.inl rfl) (NSq_S0 q2 hT1) _ _ e⟩) (fun r x e => ncy_F_variables _ _ e)) (fun b w r x hz => ⟨⟨hz.1.1.1, hz.1.2⟩, pl w x hz.2.1.1 hz.2.1.2 hz.2.2 hz.1.1⟩)) go kp
          · have y' : tyF v i = 2 := by rw [hty]; exact y
            rw [y', sel 2 101 (by decide +kernel) y', if_neg (by decide), if_pos rfl, if_neg (by decide), if_pos rfl]
            exact jx_bt (jx_m (jx_fr (P := fun w => kcq w1 w ∧ kb (S0q T) w1 w) (jc_vars (T0 := T) ⟨hI, hGX⟩ q1 hil (by omega) (Or.inr rfl) g1.1) (fun b w e => ⟨ncx_F_X3_variables _ _ e, hb_vars (S := S0q T) (Or.inl rfl) (NSq_S0 q2 hT1) _ _ e⟩) (fun r x e => ncy_F_variables _ _ e)) (fun b w r x hz => ⟨⟨hz.1.1.1, hz.1.2⟩, pl w x hz.2.1.1 hz.2.1.2 hz.2.2 hz.1.1⟩)) go kp
        rcases oF_r q1 with ⟨y, q1⟩ | ⟨ny2, q1⟩
        · rcases y with y | y
          · have y' : tyF v i = 3 := by rw [hty]; exact y
            rw [y', sel 3 102 (by decide +kernel) y', if_neg (by decide), if_neg (by decide), if_pos rfl, if_neg (by decide), if_neg (by decide), if_pos rfl]
            exact jx_bt (jx_m (jx_fr (P := fun w => kcq w1 w ∧ kb (S0q T) w1 w) (jc_placed (T0 := T) ⟨hI, hGX⟩ q1 hil (Or.inl rfl) g1.1) (fun b w e => ⟨ncx_F_X3_placed _ _ e, hb_placed (S := S0q T) (NSq_S0 q2 hT1) _ _ e⟩) (fun r x e => ncy_F_image _ _ e)) (fun b w r x hz => ⟨⟨hz.1.1.1, hz.1.2⟩, pl w x hz.2.1.1 hz.2.1.2 hz.2.2 hz.1.1⟩)) go kp
          · have y' : tyF v i = 4 := by rw [hty]; exact y
            rw [y', sel 4 103 (by decide +kernel) y', if_neg (by decide), if_neg (by decide), if_neg (by decide), if_pos rfl, if_neg (by decide), if_neg (by decide), if_neg (by decide), if_pos rfl]
            exact jx_bt (jx_m (jx_fr (P := fun w => kcq w1 w ∧ kb (S0q T) w1 w) (jc_placed (T0 := T) ⟨hI, hGX⟩ q1 hil (Or.inr rfl) g1.1) (fun b w e => ⟨ncx_F_X3_placed _ _ e, hb_placed (S := S0q T) (NSq_S0 q2 hT1) _ _ e⟩) (fun r x e => ncy_F_image _ _ e)) (fun b w r x hz => ⟨⟨hz.1.1.1, hz.1.2⟩, pl w x hz.2.1.1 hz.2.1.2 hz.2.2 hz.1.1⟩)) go kp
        rcases oF_r q1 with ⟨y, q1⟩ | ⟨ny3, q1⟩
        · have y' : tyF v i = 6 := by rw [hty]; exact y
          rw [y', sel 6 105 (by decide +kernel) y', if_neg (by decide), if_neg (by decide), if_neg (by decide), if_neg (by decide), if_pos rfl, if_neg (by decide), if_neg (by decide), if_neg (by decide), if_neg (by decide), if_pos rfl]
          refine jx_bt ?_ go kp
          unfold F_part B_part_0
          refine jx_r (w_adv (RF_of h' x3) (by omega) (fun z1 r1 => ?_))
          rw [if_pos rfl]
          exact jx_l (jx_rout (IG_b.2 v u w1 z1 i (i + 1) _ _ hI g1.1 h0 r1.1) (XT_mv hIT hX g1.1 (CX_any x2 (g1.cx t10)) r1.1 (CR_any x3 r1.cx) (by omega)) q1 hil (by omega) (Or.inl ⟨rfl, rfl⟩))
        rcases oF_r q1 with ⟨y, q1⟩ | ⟨ny4, q1⟩
        · have y' : tyF v i = 7 := by rw [hty]; exact y
          rw [y', sel 7 106 (by decide +kernel) y', if_neg (by decide), if_neg (by decide), if_neg (by decide), if_neg (by decide), if_neg (by decide), if_pos rfl, if_neg (by decide), if_neg (by decide), if_neg (by decide), if_neg (by decide), if_neg (by decide), if_pos rfl]
          exact jx_bt (jx_m (jx_fr (P := fun w => kcq w1 w ∧ kb (S0q T) w1 w) (jc_uses (T0 := T) ⟨hI, hGX⟩ q1 hil g1.1) (fun b w e => ⟨ncx_F_X3_uses _ _ e, hb_uses (S := S0q T) (NSq_S0 q2 hT1) _ _ e⟩) (fun r x e => ncy_F_use _ _ e)) (fun b w r x hz => ⟨⟨hz.1.1.1, hz.1.2⟩, pl w x hz.2.1.1 hz.2.1.2 hz.2.2 hz.1.1⟩)) go kp
        rcases oF_r q1 with ⟨y, q1⟩ | ⟨ny5, q1⟩
        · have y' : tyF v i = 8 := by rw [hty]; exact y
          rw [y', sel 8 107 (by decide +kernel) y', if_neg (by decide), if_neg (by decide), if_neg (by decide), if_neg (by decide), if_neg (by decide), if_neg (by decide), if_pos rfl, if_neg (by decide), if_neg (by decide), if_neg (by decide), if_neg (by decide), if_neg (by decide), if_neg (by decide), if_pos rfl]
          obtain ⟨k2, q2, q3⟩ := oS_r (show oS (oKd ty) (dRout ty) (i + 1) (.inr k1) from q1)
          obtain ⟨tk, rfl⟩ := oK_r q2
          have tk2 : 12 ≤ tyF v (i + 1) ∧ tyF v (i + 1) ≤ 16 := by rw [hty]; exact tk
          have hi1 : i + 1 < n := hV.lt (i := i + 1) hil (nEk tk2)
          refine k3_kind hV.1 g1 hi1 (fun w2 g2 => ?_)
          refine jx_bt ?_ go kp
          unfold F_part B_part_0
          refine jx_r (w_adv (RF_of h' x3) (by omega) (fun z1 r1 => ?_))
          rw [if_neg (by decide)]
          refine w_kind hV.2.1 r1 hi1 tk2 (fun z2 r2 => jx_l ?_)
          have hk2 : i + 1 + 1 < k1 := pg_Rout _ _ q3
          exact jx_rout (IG_b.2 v u w2 z2 i (i + 1 + 1) _ _ hI g2.1 h0 r2.1) (XT_mv hIT hX g2.1 (CX_any x2 (g2.cx t10)) r2.1 (CR_any x3 r2.cx) (by omega)) q3 hi1 (by omega) (Or.inr ⟨rfl, rfl, KD_ty tk2, rfl⟩)
        rcases oF_r q1 with ⟨y, q1⟩ | ⟨ny6, q1⟩
        · have y' : tyF v i = 9 := by rw [hty]; exact y
          rw [y', sel 9 108 (by decide +kernel) y', if_neg (by decide), if_neg (by decide), if_neg (by decide), if_neg (by decide), if_neg (by decide), if_neg (by decide), if_neg (by decide), if_neg (by decide), if_neg (by decide), if_neg (by decide), if_neg (by decide), if_neg (by decide), if_neg (by decide), if_neg (by decide), if_pos rfl]
          refine jx_bt ?_ go kp
          unfold F_tasked B_tasked_0
          refine jx_r (w_adv (RF_of h' x3) (by omega) (fun z1 r1 => jx_l ?_))
          exact jx_cyc (IG_b.2 v u w1 z1 i (i + 1) _ _ hI g1.1 h0 r1.1) (XT_mv hIT hX g1.1 (CX_any x2 (g1.cx t10)) r1.1 (CR_any x3 r1.cx) (by omega)) q1 hil (by omega)
        exact (oR_r q1).elim
end N12a
/-! The first number of a name lies in int range, but for the KIND LONG. -/
def K3q (k : Int32) : Prop := k = 0 ∨ k = 1 ∨ k = 2 ∨ k = 3
def FSq (v : CSt) : Prop := ∀ m, K3q (mI v m 5) → i32 (mL v m 10)
section N13
variable {α β : Type} {u v w z : CSt} {N q m r : Nat} {l1 l2 l3 l4 a : Int32} {b : Int64}
theorem FSq.kb (h : FSq u) (hk : kb (fun _ _ => True) u w) : FSq w := fun m hm => by
  rw [(hk.1 m 5 trivial).1] at hm
  rw [(hk.1 m 10 trivial).2]
  exact h m hm
theorem FSq.eq (h : FSq u) (h1 : mI w = mI u) (h2 : mL w = mL u) : FSq w := fun m hm => by
  rw [h1] at hm
  rw [h2]
  exact h m hm
theorem FSq.mIq {k : Nat} (h : FSq u) (hk : k ≠ 5) : FSq (xmI u r k a) := fun m hm => by
  rw [mI_ne (Or.inr (fun e => hk e.symm))] at hm
  exact h m hm
theorem FSq.kd (h : FSq u) (h0 : i32 (mL u r 10)) : FSq (xmI u r 5 a) := fun m hm => by
  by_cases e : m = r
  · rw [e]; exact h0
  · rw [mI_ne (Or.inl e)] at hm
    exact h m hm
theorem FSq.mLq (h : FSq u) (h0 : K3q (mI u r 5) → i32 b) : FSq (xmL u r 10 b) := fun m hm => by
  by_cases e : m = r
  · rw [e] at hm ⊢
    rw [mL_eq]
    exact h0 hm
  · rw [mL_ne (Or.inl e)]
    exact h m hm
theorem f_add {l2 : Int64} (h : FSq w) (hT : pI w q 12 < 160) : pq (F_X6_add N q l1 l2 l4 w) (fun r z => FSq z ∧ mL z r 10 = 0) := by
  unfold F_X6_add B_X6_add_0
  rw [if_pos hT]
  refine pq_ix (fun _ => pq_bc (pq_m k2_become (fun _ z hz => ?_)))
  generalize 169 * q + (pI w q 12).toNatClampNeg = m at hz ⊢
  obtain ⟨⟨-, -, -, -, -, -, -, -, -, b1, b2⟩, g1, g2, g3, g4, g5, -⟩ := hz
  have hz : FSq z := fun p hp => by
    by_cases e : p = m
    · rw [e, g2]; exact i32_0
    · rw [b1 p 5 e] at hp
      rw [b2 p 10 e]
      exact h p hp
  refine pq_pc (pq_if (fun _ => ?_) (fun _ => pq_rd (pq_pc (pq_ix (fun _ => pq_wc (pq_rd (pq_wc ?_)))))))
  · unfold B_X6_add_86
    exact pq_pc (pq_some ⟨hz.mIq (k := 3) (by decide), g2⟩)
  · unfold B_X6_add_86
    exact pq_pc (pq_some ⟨(hz.mIq (r := m) (k := 3) (a := pI z q 12) (by decide)).mIq (k := 4) (by decide), g2⟩)
theorem f_new (h : FSq w) : pq (F_X3_newName N l1 w) (fun y z => FSq z ∧ ∀ r, y = .inr r → mL z r 10 = 0) := by
  have ref : ∀ (a p : Int32) (z : CSt) (k : Int32 → CSt → Option (Sum Nat Nat × CSt)), FSq z → pq (bt (F_X9_refuse N a p z) k) (fun y z => FSq z ∧ ∀ r, y = .inr r → mL z r 10 = 0) := fun a p z k hz => pq_refuse ⟨hz, fun r e => nomatch e⟩
  have lk : ∀ {α : Type} {x : Option (α × CSt)} {k : α → CSt → Option (Sum Nat Nat × CSt)} {z : CSt} {Q : Sum Nat Nat → CSt → Prop}, pq x (fun _ z' => z' = z) → (∀ r, pq (k r z) Q) → pq (bc x k) Q := fun hx h => pq_bc (pq_m hx (fun r z' e => by rw [e]; exact h r))
  have b67 : ∀ (a : Int32) (b : Int64) (c : Int32) (s0 : Nat), pq (B_X3_newName_67 N l1 a b c s0 w) (fun y z => FSq z ∧ ∀ r, y = .inr r → mL z r 10 = 0) := by
    intro a b c s0
    unfold B_X3_newName_67
    refine pq_if (fun _ => ?_) (fun _ => ref _ _ _ _ h)
    unfold B_X3_newName_88
    refine pq_ok (fun _ => pq_bc (pq_m h_room (fun r z1 hz1 => ?_)))
    rw [hz1.1]
    refine pq_if (fun _ => ref _ _ _ _ h) (fun c => ?_)
    have h12 := hz1.2 c
    unfold B_X3_newName_108
    refine pq_bc (pq_m h_next (fun _ z2 hz2 => pq_ok (fun _ => ?_)))
    have k2 : FSq z2 ∧ pI z2 (cR z2 2) 12 < 160 := by
      rcases hz2 with e | ⟨t, e⟩
      · rw [e]; exact ⟨h, h12⟩
      · rw [e]; exact ⟨h, h12⟩
    refine pq_bc (pq_m (f_add k2.1 k2.2) (fun r z3 hz3 => pq_ok (fun _ => pq_some ⟨hz3.1, fun r' e => ?_⟩)))
    cases e
    exact hz3.2
  unfold F_X3_newName B_X3_newName_0
  refine lk pz_here (fun _ => lk pz_head (fun _ => lk pz_tail (fun _ => ?_)))
  refine pq_if (fun _ => pq_ok (fun _ => ?_)) (fun _ => pq_ok (fun _ => ?_))
  · exact lk (pq_m h_name (fun r z hz => hz.1)) (fun _ => pq_ok (fun _ => lk pz_called (fun _ => pq_ok (fun _ => b67 _ _ _ _))))
  · exact lk pz_ofText (fun _ => pq_ok (fun _ => b67 _ _ _ _))
/-- programs that write no name -/
theorem FSq.sm (h : FSq u) (hs : smf u w) : FSq w := h.eq (funext (fun m => funext (fun k => hs.mI m k))) (funext (fun m => funext (fun k => hs.mL m k)))
theorem f_bc {x : Option (α × CSt)} {k : α → CSt → Option (β × CSt)} {Q : β → CSt → Prop} (hx : KB (fun _ _ => True) x w) (hw : FSq w) (h : ∀ r z, FSq z → pq (k r z) Q) : pq (bc x k) Q := pq_bc (pq_m hx.p (fun r z hz => h r z (hw.kb hz)))
theorem f_bt {x : Option (Sum Nat α × CSt)} {k : α → CSt → Option (Sum Nat β × CSt)} (hx : KB (fun _ _ => True) x w) (hw : FSq w) (h : ∀ r z, FSq z → pq (k r z) (fun _ z' => FSq z')) : pq (bt x k) (fun _ z' => FSq z') := pq_bt (pq_m hx.p (fun y z hz => ⟨fun _ _ => hw.kb hz, fun b _ => h b z (hw.kb hz)⟩))
theorem f_const : pq (F_X3_constant N l1 w) (fun y z => smf w z ∧ ∀ r, y = .inr r → K3q l1 → i32 r) := by
  have b60 : ∀ (p : Int32) (a : Int64) (z : CSt), pq (B_X3_constant_60 N l1 p a z) (fun y _ => ∀ r, y = .inr r → K3q l1 → i32 r) := by
    intro p a z
    unfold B_X3_constant_60
    refine pq_if (fun _ => pq_refuse (fun r e => nomatch e)) (fun c => pq_some (fun r e hk => ?_))
    cases e
    have hc : n_cut l1 a = a := by
      unfold n_fits at c
      by_cases y : n_cut l1 a = a
      · exact y
      · rw [if_neg y] at c
        exact absurd rfl c
    rw [← hc]
    have kd : KD l1 := by
      rcases hk with k | k | k | k
      · exact Or.inl k
      · exact Or.inr (Or.inl k)
      · exact Or.inr (Or.inr (Or.inl k))
      · exact Or.inr (Or.inr (Or.inr (Or.inl k)))
    exact i32_cut kd (fun e => by rw [e] at hk; rcases hk with k | k | k | k <;> exact absurd k (by decide))
  have b21 : ∀ (p : Int32) (z : CSt), pq (B_X3_constant_21 N l1 p z) (fun y _ => ∀ r, y = .inr r → K3q l1 → i32 r) := by
    intro p z
    unfold B_X3_constant_21
    refine pq_bc (fun _ _ _ => pq_bc (fun _ _ _ => pq_bt (fun y z2 _ => ⟨fun _ _ => (fun r e => (nomatch e)), fun b _ => pq_if (fun _ => b60 _ _ _) (fun _ => b60 _ _ _)⟩)))
  refine pq_and nsm_F_X3_constant.p ?_
  unfold F_X3_constant B_X3_constant_0
  exact pq_bc (fun _ _ _ => pq_if (fun _ => b21 _ _) (fun _ => pq_bc (fun _ _ _ => b21 _ _)))
theorem f_join {l1 : Nat} (h : FSq w) : pq (F_X3_join N l1 l2 w) (fun _ z => FSq z) := by
  unfold F_X3_join B_X3_join_0
  refine pq_ok (fun hq => pq_bc (pq_m h_name (fun r z hz => ?_)))
  rw [hz.1]
  have b64 : ∀ (s1 s2 : Int32) (z : CSt), FSq z → pq (B_X3_join_64 N l2 r r s1 s2 z) (fun _ z => FSq z) := by
    intro s1 s2 z hz
    unfold B_X3_join_64
    exact pq_pc (pq_if (fun _ => pq_some (hz.mIq (by decide))) (fun _ => pq_refuse (hz.mIq (k := 11) (by decide))))
  exact pq_ok (fun _ => pq_pc (pq_pc (pq_pc (pq_if (fun _ => b64 _ _ _ (((h.mIq (by decide)).mIq (by decide)).mIq (by decide))) (fun _ => b64 _ _ _ (((h.mIq (by decide)).mIq (by decide)).mIq (by decide)))))))
theorem f_one (h : FSq w) : pq (F_X3_oneVariable N l1 l2 l3 w) (fun _ z => FSq z) := by
  have b112 : ∀ (a : Int32) (m : Nat) (z : CSt), FSq z → pq (B_X3_oneVariable_112 N l1 l3 a m z) (fun _ z => FSq z) := by
    intro a m z hz
    unfold B_X3_oneVariable_112
    refine pq_if (fun _ => pq_pc ?_) (fun _ => ?_)
    · exact f_bt kb_F_X3_allot (hz.mIq (by decide)) (fun _ z2 h2 => pq_some h2)
    · exact pq_bt (pq_m (f_join hz) (fun y z2 h2 => ⟨fun _ _ => h2, fun _ _ => pq_some h2⟩))
  have b83 : ∀ (a : Int32) (m : Nat) (z : CSt), FSq z → mI z m 5 = l3 → pq (B_X3_oneVariable_83 N l1 l3 a m z) (fun _ z => FSq z) := by
    intro a m z hz h5
    unfold B_X3_oneVariable_83
    refine pq_bc (pq_m nsm_F_X9_is.p (fun _ z1 h1 => pq_if (fun _ => b112 _ _ _ (hz.sm h1)) (fun _ => pq_bc (pq_m nsm_F_X9_next.p (fun _ z2 h2 => ?_)))))
    refine pq_bt (pq_m f_const (fun y z3 h3 => ⟨fun _ _ => ((hz.sm h1).sm h2).sm h3.1, fun c ec => pq_pc (b112 _ _ _ ((((hz.sm h1).sm h2).sm h3.1).mLq (fun hk => ?_)))⟩))
    rw [h3.1.mI, h2.mI, h1.mI, h5] at hk
    exact h3.2 c ec hk
  unfold F_X3_oneVariable B_X3_oneVariable_0
  refine pq_bc (pq_m pz_here (fun _ z0 h0 => ?_))
  rw [h0]
  refine pq_bt (pq_m (f_new h) (fun y z hz => ⟨fun _ _ => hz.1, fun r e => pq_ok (fun _ => pq_pc (pq_pc (pq_pc ?_)))⟩))
  have g10 := hz.2 r e
  have h1 : FSq (xmI (xmI (xmI z r 6 l2) r 5 l3) r 7 1) := ((hz.1.mIq (by decide)).kd (by show i32 (mL z r 10); rw [g10]; exact i32_0)).mIq (by decide)
  have e5 : mI (xmI (xmI (xmI z r 6 l2) r 5 l3) r 7 1) r 5 = l3 := by rw [h_mI2 (by decide), h_mI]
  generalize xmI (xmI (xmI z r 6 l2) r 5 l3) r 7 1 = z1 at h1 e5 ⊢
  refine pq_bc (pq_m nsm_F_X9_is.p (fun _ z3 h3 => pq_if (fun _ => b83 _ _ _ (h1.sm h3) (by rw [h3.mI]; exact e5)) (fun _ => pq_bc (pq_m nsm_F_X9_next.p (fun _ z4 h4 => pq_pc ?_)))))
  refine pq_bt (pq_m nsm_F_X9_takeBounded.p (fun y z5 h5 => ⟨fun _ _ => (((h1.sm h3).sm h4).mIq (k := 8) (by decide)).sm h5, fun c _ => pq_pc (pq_bc (pq_m nsm_F_X9_next.p (fun _ z6 h6 => b83 _ _ _ (((((((h1.sm h3).sm h4).mIq (k := 8) (by decide)).sm h5).mIq (k := 7) (by decide)).sm h6)) ?_)))⟩))
  rw [h6.mI, h_mI2 (by decide), h5.mI, h_mI2 (by decide), h4.mI, h3.mI]
  exact e5
theorem f_varL : ∀ (M : Nat) (l1 l2 l3 l4 : Int32) (w : CSt), FSq w → pq (LP_X3_variables_18 N M (l1, l2, l3, l4, w)) (fun _ z => FSq z) := by
  intro M
  induction M with
  | zero => intro l1 l2 l3 l4 w _ r z e; cases e
  | succ M ih =>
    intro l1 l2 l3 l4 w h
    have b58 : ∀ z, FSq z → pq (B_X3_variables_58 N z) (fun _ z' => FSq z') := by
      intro z hz
      unfold B_X3_variables_58
      exact f_bc kb_F_X9_next hz (fun _ z2 h2 => pq_some h2)
    show pq (B_X3_variables_18 N (LP_X3_variables_18 N M) l1 l2 l3 l4 w) (fun _ z' => FSq z')
    unfold B_X3_variables_18
    refine pq_if (fun _ => b58 _ h) (fun _ => f_bc kb_F_X9_is h (fun _ z1 h1 => pq_if (fun _ => b58 _ h1) (fun _ => f_bc kb_F_X9_next h1 (fun _ z2 h2 => ?_))))
    exact pq_bt (pq_m (f_one h2) (fun y z3 h3 => ⟨fun _ _ => h3, fun _ _ => ih l1 l2 l3 (l4 + 1) z3 h3⟩))
theorem f_vars (h : FSq w) : pq (F_X3_variables N l1 l2 w) (fun _ z => FSq z) := by
  unfold F_X3_variables B_X3_variables_0
  exact f_bc kb_F_X9_takeKind h (fun r z1 h1 => pq_bt (pq_m (f_one h1) (fun y z2 h2 => ⟨fun _ _ => h2, fun _ _ => f_varL N l1 l2 r 0 z2 h2⟩)))
theorem f_placed (h : FSq w) : pq (F_X3_placed N l1 w) (fun _ z => FSq z) := by
  unfold F_X3_placed B_X3_placed_0
  refine f_bc kb_F_X9_takeKind h (fun k0 z1 h1 => pq_bt (pq_m (f_new h1) (fun y z hz => ⟨fun _ _ => hz.1, fun r e => pq_ok (fun _ => pq_pc (pq_pc (pq_pc ?_)))⟩)))
  have g10 := hz.2 r e
  have h2 : FSq (xmI (xmI (xmI z r 6 l1) r 5 k0) r 7 1) := ((hz.1.mIq (by decide)).kd (by show i32 (mL z r 10); rw [g10]; exact i32_0)).mIq (by decide)
  exact f_bc kb_F_X9_next h2 (fun _ z3 h3 => pq_rd (f_bt kb_F_X9_takeBounded h3 (fun _ z4 h4 => pq_pc (f_bc kb_F_X9_next (h4.mIq (by decide)) (fun _ z5 h5 => pq_some h5)))))
theorem f_useL : ∀ (M : Nat) (l1 : Nat) (l2 l4 : Int32) (w : CSt), FSq w → pq (LP_X3_oneUse_33 N M (l1, l2, l4, w)) (fun _ z => FSq z) := fun M l1 l2 l4 w h => pq_m (hb_useL (S := fun _ _ => True) M l1 l2 l4 w).p (fun _ z hz => h.kb hz)
theorem f_use1 {l1 : Nat} (h : FSq w) : pq (F_X3_oneUse N l1 w) (fun _ z => FSq z) := by
  unfold F_X3_oneUse B_X3_oneUse_0
  exact f_bc kb_F_X9_here h (fun _ z1 h1 => pq_bt (pq_m (f_new h1) (fun y z hz => ⟨fun _ _ => hz.1, fun r e => pq_ok (fun _ => pq_pc (pq_pc (f_useL _ _ _ _ _ ((hz.1.mIq (by decide)).mIq (by decide)))))⟩)))
theorem f_usesL : ∀ (M : Nat) (l1 : Nat) (l2 : Int32) (w : CSt), FSq w → pq (LP_X3_uses_45 N M (l1, l2, w)) (fun _ z => FSq z) := by
  intro M
  induction M with
  | zero => intro l1 l2 w _ r z e; cases e
  | succ M ih =>
    intro l1 l2 w h
    have b82 : ∀ z, FSq z → pq (B_X3_uses_82 N z) (fun _ z' => FSq z') := by
      intro z hz
      unfold B_X3_uses_82
      exact f_bc kb_F_X9_next hz (fun _ z2 h2 => pq_some h2)
    show pq (B_X3_uses_45 N (LP_X3_uses_45 N M) l1 l2 w) (fun _ z' => FSq z')
    unfold B_X3_uses_45
    exact pq_if (fun _ => b82 _ h) (fun _ => f_bc kb_F_X9_is h (fun _ z1 h1 => pq_if (fun _ => b82 _ h1) (fun _ => f_bc kb_F_X9_next h1 (fun _ z2 h2 => pq_bt (pq_m (f_use1 h2) (fun y z3 h3 => ⟨fun _ _ => h3, fun _ _ => ih l1 (l2 + 1) z3 h3⟩))))))
theorem f_uses (h : FSq w) : pq (F_X3_uses N w) (fun _ z => FSq z) := by
  have b31 : ∀ (m : Nat) z, FSq z → pq (B_X3_uses_31 N m z) (fun _ z' => FSq z') := by
    intro m z hz
    unfold B_X3_uses_31
    exact f_bc kb_F_X9_next hz (fun _ z2 h2 => pq_bt (pq_m (f_use1 h2) (fun y z3 h3 => ⟨fun _ _ => h3, fun _ _ => f_usesL N m 0 z3 h3⟩)))
  unfold F_X3_uses B_X3_uses_0
  exact f_bc kb_F_X8_known h (fun _ z1 h1 => pq_ok (fun _ => pq_if (fun _ => b31 _ _ h1) (fun _ => f_bc kb_F_X9_here h1 (fun _ z2 h2 => f_bt kb_F_X9_refuse h2 (fun _ z3 h3 => b31 _ _ h3)))))
theorem f_par19 (h : FSq w) : pq (B_X3_parameter_19 N w) (fun _ z => FSq z) := by
  unfold B_X3_parameter_19
  refine f_bc kb_F_X9_takeKind h (fun k0 z1 h1 => f_bc kb_F_X9_here h1 (fun _ z2 h2 => pq_bt (pq_m (f_new h2) (fun y z hz => ⟨fun _ _ => hz.1, fun r e => pq_ok (fun _ => pq_pc (pq_pc ?_))⟩))))
  have g10 := hz.2 r e
  have h3 : FSq (xmI (xmI z r 5 k0) r 7 1) := (hz.1.kd (by rw [g10]; exact i32_0)).mIq (by decide)
  exact pq_bt (pq_m (f_join h3) (fun y z2 h2 => ⟨fun _ _ => h2, fun _ _ => pq_some h2⟩))
theorem f_par (h : FSq w) : pq (F_X3_parameter N w) (fun _ z => FSq z) := by
  unfold F_X3_parameter B_X3_parameter_0
  exact f_bc kb_F_X9_is h (fun _ z1 h1 => pq_if (fun _ => f_par19 h1) (fun _ => f_bc kb_F_X9_next h1 (fun _ z2 h2 => f_par19 h2)))
theorem f_118 (h : FSq w) : pq (B_X3_routine_118 N l1 l2 m w) (fun _ z => FSq z) := by
  unfold B_X3_routine_118
  refine pq_ok (fun _ => pq_pc (f_bt kb_G_X3_statements (h.mIq (by decide)) (fun _ z1 h1 => pq_if (fun _ => pq_ok (fun _ => ?_)) (fun _ => pq_ok (fun _ => ?_)))))
  · exact f_bc kb_F_X6_constant h1 (fun _ z2 h2 => pq_ok (fun _ => f_bc kb_F_X6_step h2 (fun _ z3 h3 => pq_ok (fun _ => pq_pc (pq_some h3)))))
  · exact f_bc kb_F_X6_step h1 (fun _ z3 h3 => pq_ok (fun _ => pq_pc (pq_some h3)))
theorem f_79 : ∀ (M : Nat) (l4 : Int32) (w : CSt), FSq w → pq (LP_X3_routine_79 N M (l1, l2, m, l4, w)) (fun _ z => FSq z) := by
  intro M
  induction M with
  | zero => intro l4 w _ r z e; cases e
  | succ M ih =>
    intro l4 w h
    show pq (B_X3_routine_79 N (LP_X3_routine_79 N M) l1 l2 m l4 w) (fun _ z' => FSq z')
    unfold B_X3_routine_79
    exact pq_if (fun _ => f_118 h) (fun _ => f_bc kb_F_X9_is h (fun _ z1 h1 => pq_if (fun _ => f_118 h1) (fun _ => f_bc kb_F_X9_next h1 (fun _ z2 h2 => pq_bt (pq_m (f_vars h2) (fun y z3 h3 => ⟨fun _ _ => h3, fun _ _ => ih (l4 + 1) z3 h3⟩))))))
theorem f_62 (h : FSq w) : pq (B_X3_routine_62 N l1 l2 m w) (fun _ z => FSq z) := by
  unfold B_X3_routine_62
  exact f_bc kb_F_X9_next h (fun _ z1 h1 => f_bc kb_F_X9_next h1 (fun _ z2 h2 => f_79 N 0 z2 h2))
theorem f_32 : ∀ (M : Nat) (l4 : Int32) (w : CSt), FSq w → pq (LP_X3_routine_32 N M (l1, l2, m, l4, w)) (fun _ z => FSq z) := by
  intro M
  induction M with
  | zero => intro l4 w _ r z e; cases e
  | succ M ih =>
    intro l4 w h
    show pq (B_X3_routine_32 N (LP_X3_routine_32 N M) l1 l2 m l4 w) (fun _ z' => FSq z')
    unfold B_X3_routine_32
    exact pq_if (fun _ => f_62 h) (fun _ => f_bc kb_F_X9_is h (fun _ z1 h1 => pq_if (fun _ => pq_bt (pq_m (f_par h1) (fun y z3 h3 => ⟨fun _ _ => h3, fun _ _ => ih (l4 + 1) z3 h3⟩))) (fun _ => f_62 h1)))
theorem f_routine (h : FSq w) : pq (F_X3_routine N l1 l2 w) (fun _ z => FSq z) := by
  unfold F_X3_routine B_X3_routine_0
  refine pq_bt (pq_m (f_new h) (fun y z hz => ⟨fun _ _ => hz.1, fun r e => pq_ok (fun _ => pq_pc (pq_ok (fun _ => pq_pc ?_)))⟩))
  have g10 := hz.2 r e
  have h3 : FSq (xmI z r 5 l2) := hz.1.kd (by rw [g10]; exact i32_0)
  have h4 : ∀ (p : Nat) (a : Int32), FSq (xpI (xmI z r 5 l2) p 15 a) := fun p a => h3
  exact f_bc kb_F_X9_next (h4 _ _) (fun _ z5 h5 => f_32 N 0 z5 h5)
theorem f_cyc (h : FSq w) : pq (F_X3_cyclic N w) (fun _ z => FSq z) := by
  have b94 : ∀ z, FSq z → pq (B_X3_cyclic_94 N z) (fun _ z' => FSq z') := by
    intro z hz
    unfold B_X3_cyclic_94
    exact f_bc kb_F_X9_next hz (fun _ z1 h1 => pq_ok (fun _ => f_bt kb_G_X3_statements h1 (fun _ z2 h2 => f_bc kb_F_X6_step h2 (fun _ z3 h3 => pq_some h3))))
  have b61 : ∀ (m : Nat) (a b : Int32) z, FSq z → pq (B_X3_cyclic_61 N m a b z) (fun _ z' => FSq z') := by
    intro m a b z hz
    unfold B_X3_cyclic_61
    exact pq_if (fun _ => b94 _ hz) (fun _ => pq_ok (fun _ => pq_ix (fun _ => f_bc kb_F_X7_become hz (fun _ z1 h1 => b94 _ h1))))
  unfold F_X3_cyclic B_X3_cyclic_0
  refine pq_bt (pq_m (f_new h) (fun y z hz => ⟨fun _ _ => hz.1, fun r e => pq_ok (fun _ => f_bc kb_F_X9_next hz.1 (fun _ z3 h3 => f_bt kb_F_X9_takeBounded h3 (fun _ z4 h4 => ?_)))⟩))
  exact f_bc kb_F_X9_is h4 (fun _ z5 h5 => pq_if (fun _ => b61 _ _ _ _ h5) (fun _ => f_bc kb_F_X9_next h5 (fun _ z6 h6 => f_bt kb_F_X9_takeBounded h6 (fun _ z7 h7 => b61 _ _ _ _ h7))))
theorem f_makeL : ∀ (M : Nat) (l2 : Int32) (w : CSt), FSq w → pq (LP_X3_make_57 N M (l2, w)) (fun _ z => FSq z) := by
  intro M
  induction M with
  | zero => intro l2 w _ r z e; cases e
  | succ M ih =>
    intro l2 w h
    show pq (B_X3_make_57 N (LP_X3_make_57 N M) l2 w) (fun _ z' => FSq z')
    unfold B_X3_make_57 B_X3_make_205
    have go : ∀ {X : Option (Sum Nat Int32 × CSt)}, pq X (fun _ z => FSq z) → pq (bt X fun _ u_21 => LP_X3_make_57 N M (l2 + 1, u_21)) (fun _ z' => FSq z') := fun hx => pq_bt (pq_m hx (fun y z4 h4 => ⟨fun _ _ => h4, fun _ _ => ih (l2 + 1) z4 h4⟩))
    refine pq_if (fun _ => pq_some h) (fun _ => f_bc kb_F_X9_is h (fun _ z1 h1 => pq_if (fun _ => ?_) (fun _ => pq_some h1)))
    refine f_bc kb_F_X9_type h1 (fun _ z2 h2 => f_bc kb_F_X9_next h2 (fun _ z3 h3 => ?_))
    exact pq_if (fun _ => go (f_vars h3)) (fun _ => pq_if (fun _ => go (f_vars h3)) (fun _ => pq_if (fun _ => go (f_placed h3)) (fun _ => pq_if (fun _ => go (f_placed h3)) (fun _ => pq_if (fun _ => go (f_routine h3)) (fun _ => pq_if (fun _ => go (f_uses h3)) (fun _ => pq_if (fun _ => f_bc kb_F_X9_takeKind h3 (fun _ z4 h4 => go (f_routine h4))) (fun _ => go (f_cyc h3))))))))
/-- making a program -/
theorem f_make (h : FSq w) : pq (F_X3_make N q w) (fun _ z => FSq z) := by
  unfold F_X3_make B_X3_make_0 F_X6_empty B_X6_empty_0 F_X8_begin B_X8_begin_0 F_X9_rewind B_X9_rewind_0
  refine pq_pc (pq_ok (fun _ => pq_bc (pq_some (pq_bc (pq_some (pq_pc (pq_pc (pq_pc (pq_pc (pq_pc (pq_bc (pq_some ?_))))))))))))
  exact f_makeL N 0 _ (fun m hm => h m hm)
end N13
/-! Runs of installed programs: every call and every body, at every depth. -/
/-- where numbers lie once a program is installed -/
def GKf (v : CSt) (q T : Nat) (gk : Nat → Int32) : Prop := ∀ y, y < T → (mI v (169 * q + y) 2 = 0 → (mI v (169 * q + y) 6 = 0 ∨ mI v (169 * q + y) 6 = 1) → 0 ≤ (mI v (169 * q + y) 9).toInt ∧ (mI v (169 * q + y) 9).toInt + (mI v (169 * q + y) 7).toInt ≤ 2000 ∧ ∀ j : Nat, (j : Int) < (mI v (169 * q + y) 7).toInt → gk ((mI v (169 * q + y) 9).toNatClampNeg + j) = mI v (169 * q + y) 5) ∧ (mI v (169 * q + y) 2 = 1 → ∀ r : Nat, (mI v (169 * q + y) 14).toInt = (r : Int) → 0 ≤ (mI v (169 * q + y) 9).toInt ∧ (mI v (169 * q + y) 9).toInt + (mI v (169 * q + r) 7).toInt ≤ 2000 ∧ ∀ k : Nat, (k : Int) < (mI v (169 * q + r) 12).toInt → ∀ j : Nat, (j : Int) < (mI v (169 * q + (r + 1 + k)) 7).toInt → gk ((mI v (169 * q + y) 9).toNatClampNeg + (mI v (169 * q + (r + 1 + k)) 9).toNatClampNeg + j) = mI v (169 * q + (r + 1 + k)) 5)
/-- the tables and the code of what is installed -/
def TBN (N : Nat) (v : CSt) (u : RSt) (q s T : Nat) : Prop := TBM v u q s T ∧ TRr v u q s T ∧ TRo v q T ∧ CIv N v u q s T ∧ FSq v
/-- a run's states as its own base: vF, uF -/
def VFq (v : CSt) (u : RSt) (q s : Nat) (vF : CSt) (uF : RSt) (g : Nat) : Prop := mI vF = mI v ∧ mL vF = mL v ∧ pI vF = pI v ∧ pA vF = pA v ∧ vF.2.2.2.2.2.2.1 = v.2.2.2.2.2.2.1 ∧ cR vF 4 = q ∧ (uF.1 55).toInt = (s : Int) ∧ (∀ k, k ∈ [20, 21, 23, 27, 28, 29, 30, 32, 38, 39, 49, 50, 51] → uF.2.2.1 k = u.2.2.1 k) ∧ (∀ k, k ∈ [24, 52, 53] → uF.2.2.2 k = u.2.2.2 k) ∧ ((cI vF 23).toInt = (g : Int) ∧ (uF.1 105).toInt = (g : Int) ∧ cI vF 22 = uF.1 104)
section N14a
variable {v w vF : CSt} {u uF : RSt} {q s T N g n y j K : Nat} {gk : Nat → Int32} {i : Int32}
theorem local_at (hx : (mI w (169 * q + y) 3).toInt = (y : Int)) (hK : (mI w (169 * q + y) 12).toInt = (K : Int)) (hj : j < K) (hi : i.toInt = (j : Int)) (hT : (pI w q 12).toInt = (T : Int)) (hKT : y + 1 + K ≤ T) (hT2 : T ≤ 160) : pq (F_X6_local N q (169 * q + y) i w) (fun x z => x = 169 * q + (y + 1 + j) ∧ z = w) := by
  have e0 : (0 : Int32).toInt = 0 := by decide
  have e1 : (1 : Int32).toInt = 1 := by decide
  unfold F_X6_local B_X6_local_0
  refine pq_if (fun c => ?_) (fun _ => pq_if (fun c => ?_) (fun _ => ?_))
  · have := Int32.lt_iff_toInt_lt.mp c
    omega
  · have := Int32.le_iff_toInt_le.mp c
    omega
  · have ei : (mI w (169 * q + y) 3 + 1 + i).toInt = ((y + 1 + j : Nat) : Int) := by
      have : (mI w (169 * q + y) 3 + 1).toInt = ((y + 1 : Nat) : Int) := by rw [tI_add (by omega) (by omega), e1, hx]; omega
      rw [tI_add (by omega) (by omega), this, hi]
      omega
    refine pq_bc (pq_m (k2_name ei hT (by omega)) (fun x z hz => ?_))
    rw [hz.1, hz.2]
    exact pq_ok (fun _ => pq_some ⟨rfl, rfl⟩)
/-- a body, once the names told so far run alike -/
theorem BD_sn {md sz e e' : Nat} {fk : Nat → Int32} {rk : Int32} (h : BDq N v u q s T md sz fk rk e e') (hs : s < 2) : ∃ eb, e ≤ eb ∧ eb ≤ 3100 ∧ ∀ vF uF g gk n, VFq v u q s vF uF g → PHI N v q s T vF uF g gk n → SN N vF uF g md sz fk gk rk e eb e' 340 n := by
  obtain ⟨Φ, κ1, κ2, δ1, δ2, h1, h2, ⟨h3, h3'⟩, ⟨h4, h4'⟩, ⟨h5, h6⟩, ⟨h7, h8⟩, ⟨h9, h10, h11⟩, h12⟩ := h
  subst h3 h3'
  refine ⟨κ2.1, h4, h4', fun vF uF g gk n hV hP => ?_⟩
  obtain ⟨f1, f2, f3, f4, f5, f6, f7, f8, f9, f10⟩ := hV
  have eB : ∀ k, pB vF q k = pB v q k := fun k => by
    show vF.2.2.2.2.2.2.1 q k = v.2.2.2.2.2.2.1 q k
    rw [f5]
  refine h1 vF uF g gk n (fun x x1 x2 => ?_) (fun x x1 x2 => ?_) (fun x x1 x2 => ?_) (h2 vF uF g gk n hP)
  · rw [f6, f3, f4]
    exact ⟨by omega, h6 x x2⟩
  · refine ⟨by omega, ?_⟩
    rw [f8 49 (by decide), f8 50 (by decide), f8 51 (by decide), f9 52 (by decide), f9 53 (by decide)]
    exact h12 x x2 x1
  · rw [f6, f3, eB, eB]
    exact ⟨by omega, h8 x x2⟩
theorem crf_pI (h : crf vF w) (hp : pI vF = pI v) (q k : Nat) : pI w q k = pI v q k := by
  show w.2.2.2.2.1 q k = v.2.2.2.2.1 q k
  rw [h.2.2.2.2]
  show pI vF q k = pI v q k
  rw [hp]
theorem crf_mI (h : crf vF w) (hp : mI vF = mI v) (m k : Nat) : mI w m k = mI v m k := by
  show w.2.2.2.2.2.2.2.2.1 m k = v.2.2.2.2.2.2.2.2.1 m k
  rw [h.2.2.2.2]
  exact congrFun (congrFun hp m) k
theorem FNC_all (hB : TBN N v u q s T) (hs : s < 2) (hV : VFq v u q s vF uF g) (hP : ∀ n', n = n' + 1 → PHI N v q s T vF uF g gk n') (hy : y < T) (h4 : mI v (169 * q + y) 2 = 4) : FNC N vF uF g gk (mI v (169 * q + y) 3) (Int32.ofNat (24 * s + 8 + (mI v (169 * q + y) 4).toNatClampNeg)) (mI v (169 * q + y) 11).toNatClampNeg (fun i => mI v (169 * q + (y + 1 + i)) 5) (mI v (169 * q + y) 5) n := by
  obtain ⟨⟨t1, t2, t11, t12, -⟩, t16, s7, hci, hfs⟩ := hB
  obtain ⟨f1, f2, f3, f4, f5, f6, f7, f8, f9, f10⟩ := id hV
  obtain ⟨K, F, P, hR, -⟩ := t16 y hy (Or.inr h4)
  obtain ⟨a1, a2, a3, a4, a5, a6, a7, a8, a9, a10, a11, a12, a13, a14, a15, a16, a17⟩ := id hR
  have hO := s7 y hy (Or.inr h4) K a4
  obtain ⟨o1, o2, o3, o4, o5, o6, o7⟩ := OFF_all hO
  obtain ⟨hps, e, e', he, he', hbd⟩ := (hci y hy).1 (Or.inr h4) K a4
  rw [if_neg (by rw [h4]; decide)] at hbd
  obtain ⟨eb, b1, b2, b3⟩ := BD_sn hbd hs
  have num := nat_cl a1
  have ebk : bk v (169 * q + y) s = 24 * s + 8 + (mI v (169 * q + y) 4).toNatClampNeg := by
    unfold bk
    rw [if_neg (by rw [h4]; decide)]
  have xq : (Int32.ofNat (24 * s + 8 + (mI v (169 * q + y) 4).toNatClampNeg)).toNatClampNeg = bk v (169 * q + y) s := by
    rw [ebk]
    exact n_of (ofN_t (by omega))
  have eP : (mI v (169 * q + y) 11).toNatClampNeg = P := n_of a11
  have sz1 : ∀ i, i < P → (mI v (169 * q + (y + 1 + i)) 7).toInt = 1 := fun i hi => by
    rw [hps i (by omega)]
    decide
  have so : ∀ j, j < K → (mI v (169 * q + (y + 1 + j)) 9).toInt = ((mI v (169 * q + (y + 1 + j)) 9).toNatClampNeg : Int) := fun j hj => nat_cl (o1 j hj).1
  have sz : ∀ j, j < K → (mI v (169 * q + (y + 1 + j)) 7).toInt = ((mI v (169 * q + (y + 1 + j)) 7).toNatClampNeg : Int) := fun j hj => nat_cl (by have := (o1 j hj).2.1; omega)
  rw [eP]
  refine fnc_of (sz2 := (mI v (169 * q + y) 7).toInt.toNat) (fk2 := fkq v q y K) (e := e) (eb := eb) (e2' := e') (mf := 169 * q + y) (K := K) (F0 := F) (xr := bk v (169 * q + y) s) (s0 := s) (off := fun j => (mI v (169 * q + (y + 1 + j)) 9).toNatClampNeg) (zs := fun j => (mI v (169 * q + (y + 1 + j)) 7).toNatClampNeg) (val := fun j => mL v (169 * q + (y + 1 + j)) 10) (fun n' hn => b3 vF uF g gk n' hV (hP n' hn)) (a15 h4).1 (fun w hw => ?_) (by rw [f1]; exact a11) (by rw [f1]; exact a4) a12 (by omega) (by rw [f1]; omega) (by rw [f1]; exact he) (by omega) (fun j j1 j2 => ⟨169 * q + (y + 1 + j), fun w hw i hi => ?_, ?_, ?_, ?_⟩) xq ?_ ?_ ?_ ?_ f7 hs (fun j hj => ⟨?_, ?_, fun _ => ?_⟩) (fun j hj => ?_) (fun j hj => ⟨?_, ?_⟩) (fun j j1 j2 => ?_) (fun c hc => ?_) (by omega)
  · rw [f6]
    exact k2_name (t11 y hy).1 (by rw [crf_pI hw f3]; exact t1) hy
  · rw [f6]
    exact local_at (by rw [crf_mI hw f1]; exact (t11 y hy).1) (by rw [crf_mI hw f1]; exact a4) j2 hi (by rw [crf_pI hw f3]; exact t1) a5 t2
  · rw [f1]; exact so j j2
  · rw [f1]; exact sz j j2
  · rw [f2]
  · rw [f8 30 (by decide), a10]; exact a11
  · rw [f8 29 (by decide)]; exact a7
  · rw [f8 28 (by decide)]; exact a6
  · rw [f8 32 (by decide)]; exact he'
  · have := (a16 j hj).2.2.1
    rw [f8 21 (by decide), show 160 * s + F + j = 160 * s + (F + j) by omega, this]
    exact sz j hj
  · have := (a16 j hj).2.2.2.2.1
    rw [f8 23 (by decide), show 160 * s + F + j = 160 * s + (F + j) by omega, this]
    exact so j hj
  · have := (a16 j hj).2.2.2.2.2.1
    rw [f9 24 (by decide), show 160 * s + F + j = 160 * s + (F + j) by omega, this]
  · have q1 := (o1 j hj).2.2
    have q2 := so j hj
    have q3 := sz j hj
    omega
  · have q1 := o6 j (by omega) (fun i hi => sz1 i (by omega))
    have q2 := so j (by omega)
    omega
  · have q1 := sz1 j hj
    have q2 := sz j (by omega)
    omega
  · have q1 := o7 P a12 sz1 j j1 j2
    have q2 := so j j2
    omega
  · obtain ⟨i, i1, i2, i3⟩ := o5 c (by omega)
    have q2 := so i i1
    have q3 := sz i i1
    have hf : fkq v q y K c = mI v (169 * q + (y + 1 + i)) 5 := fkq_at hO i1 i2 i3
    refine ⟨i, i1, by omega, by omega, fun i' y1 y2 y3 => ?_, fun _ => hf, fun _ hk => ?_⟩
    · have q4 := o2 i i' i1 y2 y1
      have q5 := so i' y2
      omega
    · rw [hf] at hk
      refine hfs _ ?_
      rcases (a16 i i1).2.2.2.2.2.2.2.1 with z | z | z | z | z
      · exact Or.inl z
      · exact Or.inr (Or.inl z)
      · exact Or.inr (Or.inr (Or.inl z))
      · exact Or.inr (Or.inr (Or.inr z))
      · exact absurd z hk
theorem INC_all (hB : TBN N v u q s T) (hg : GKf v q T gk) (hs : s < 2) (hV : VFq v u q s vF uF g) (hP : ∀ n', n = n' + 1 → PHI N v q s T vF uF g gk n') (hy : y < T) (h1 : mI v (169 * q + y) 2 = 1) : INC N vF uF g gk (mI v (169 * q + y) 3) (Int32.ofNat (24 * s + (mI v (169 * q + y) 4).toNatClampNeg)) n := by
  obtain ⟨⟨t1, t2, t11, t12, t15, -, -, -, -, t17, -⟩, t16, s7, hci, hfs⟩ := hB
  obtain ⟨f1, f2, f3, f4, f5, f6, f7, f8, f9, f10⟩ := id hV
  obtain ⟨k, r, k1, k2, k3, k4, k5, k6, k7, k8, k9⟩ := t17 y hy h1
  obtain ⟨K, F, P, hR, -⟩ := t16 r k3 (Or.inl k5)
  have a4 := hR.2.2.2.1
  have hO := s7 r k3 (Or.inl k5) K a4
  obtain ⟨o1, o2, o3, o4, o5, o6, o7⟩ := OFF_all hO
  obtain ⟨hps, e, e', he, he', hbd⟩ := (hci r k3).1 (Or.inl k5) K a4
  rw [if_pos k5] at hbd
  obtain ⟨eb, b1, b2, b3⟩ := BD_sn hbd hs
  obtain ⟨g1, g2, g3⟩ := (hg y hy).2 h1 r k4
  have c9 := nat_cl g1
  have e4 : (mI v (169 * q + y) 4).toNatClampNeg = k := n_of k1
  rw [e4]
  refine inc_of (sz2 := (mI v (169 * q + r) 7).toInt.toNat) (fk2 := fkq v q r K) (rk := mI v (169 * q + r) 5) (e := e) (eb := eb) (e2' := e') (mi := 169 * q + y) (mb := 169 * q + r) (c := (mI v (169 * q + y) 9).toNatClampNeg) (xr := 24 * s + k) (F0 := bk v (169 * q + r) s) (fun n' hn => b3 vF uF g gk n' hV (hP n' hn)) (fun w hw => ?_) (fun w hw => ?_) (by rw [f1]; exact c9) (by rw [f1]; exact he) (n_of (ofN_t (by omega))) ?_ ?_ ?_ (by omega) (fun j hj => ?_) (by omega)
  · rw [f6]
    exact k2_name (t11 y hy).1 (by rw [crf_pI hw f3]; exact t1) hy
  · rw [f6, f1]
    exact k2_name k4 (by rw [crf_pI hw f3]; exact t1) k3
  · rw [f8 39 (by decide), k7]; exact c9
  · rw [f8 38 (by decide)]; exact n_of k6
  · rw [f8 32 (by decide)]; exact he'
  · obtain ⟨i, i1, i2, i3⟩ := o5 j (by omega)
    have q2 := nat_cl (o1 i i1).1
    have := g3 i (by omega) (j - (mI v (169 * q + (r + 1 + i)) 9).toNatClampNeg) (by omega)
    rw [show (mI v (169 * q + y) 9).toNatClampNeg + (mI v (169 * q + (r + 1 + i)) 9).toNatClampNeg + (j - (mI v (169 * q + (r + 1 + i)) 9).toNatClampNeg) = (mI v (169 * q + y) 9).toNatClampNeg + j by omega] at this
    rw [this, fkq_at hO i1 i2 i3]
theorem PHI_all (hB : TBN N v u q s T) (hg : GKf v q T gk) (hs : s < 2) (hV : VFq v u q s vF uF g) : ∀ n, PHI N v q s T vF uF g gk n := by
  have key : ∀ n, (∀ n', n = n' + 1 → PHI N v q s T vF uF g gk n') → PHI N v q s T vF uF g gk n := fun n hP => ⟨hV.2.2.2.2.2.2.2.2.2, fun y hy h0 hh => ((hg y hy).1 h0 hh).2.2, fun y hy h1 r hr => ((hg y hy).2 h1 r hr).2.2, fun y hy h4 => FNC_all hB hs hV hP hy h4, fun y hy h1 => INC_all hB hg hs hV hP hy h1⟩
  intro n
  induction n with
  | zero => exact key 0 (fun n' h => nomatch h)
  | succ n ih => exact key (n + 1) (fun n' h => by have e : n' = n := (by omega); rw [e]; exact ih)
end N14a
/-- how a run ends, in both alike -/
def RQq (vF : CSt) (uF : RSt) (gk : Nat → Int32) (w : CSt) (x : RSt) : Prop := ∃ (e q : Int32) (k : Nat) (M : Nat → Int64) (I : Nat → Int32) (M' : Nat → Int64) (I' : Nat → Int32), CZ vF w e q k M I ∧ RZ uF x e k M' I' ∧ (∀ c, c < 2000 → M c = M' c) ∧ (∀ c, c < 2000 → ¬ gk c = 4 → i32 (M c)) ∧ ∀ i, i < 64 → I' i = cA vF 213 i ∧ I' (64 + i) = I i
section N14b
variable {v w vF : CSt} {u uF : RSt} {q s T N g e e' : Nat} {gk fk : Nat → Int32} {M M' S : Nat → Int64} {I I' b1 b2 b3 c1 c2 c3 c4 : Nat → Int32} {rk : Int32}
/-- a task's run -/
theorem run_sn {eb : Nat} (hS : SN N vF uF g 0 0 fk gk rk e eb e' 340 8) (he : e ≤ eb) (heb : eb ≤ 3100) (hg : g ≤ 5000) (hM : ∀ c, c < 2000 → M c = M' c) (hi : ∀ c, c < 2000 → ¬ gk c = 4 → i32 (M c)) (hI : ∀ i, i < 64 → I' i = cA vF 213 i ∧ I' (64 + i) = I i) : RJ N vF uF 0 (2000, 2000, e, 0, 0, M, I, b1, b2, b3) (0, e', 0, 2100, 0, 0, M', I', S, c1, c2, c3, c4) (RQq vF uF gk) := by
  refine hS 0 2000 2000 0 0 M I b1 b2 b3 0 2100 0 M' I' S c1 c2 c3 c4 (RQq vF uF gk) (3200 * g + 3100) ⟨by omega, by omega, by omega, hM, hi, hI, fun z => absurd z (by decide), fun z => absurd z (by decide)⟩ (by omega) (by omega) (by omega) (by omega) ?_ ?_
  · intro m2 k2 t2 p2 s2 s3 T P M2 I2 e1 e2 e3 M3 I3 S3 i1 i2 i3 i4 wR wt w6 wc wr wk wm wn
    rcases wn with ⟨z, -⟩ | ⟨-, hT, hP, pa, pb, pl, ra, rb, u1, u2⟩
    · exact absurd z (by decide)
    refine x_c (by omega) u1 (by decide) (g_end (fun w hw => q_end u2 (fun x hx => ?_)))
    exact ⟨0, 0, k2, M2, I2, M3, I3, hw, hx, wR.2.2.2.1, wR.2.2.2.2.1, wR.2.2.2.2.2.1⟩
  · intro w x e0 q0 kx Mx Ix My Iy h1 h2 h3 h4 h5 _ _
    exact ⟨e0, q0, kx, Mx, Ix, My, Iy, h1, h2, h3, h4, h5⟩
end N14b
