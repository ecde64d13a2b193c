/-! The second pass: names looked up in the tables. -/
def gl (v : CSt) (m : Nat) : Prop := ¬ 4 < mI v m 2
section Lk
variable {v : CSt} {u : RSt} {q T G N F : Nat}
theorem n_of {a : Int32} {k : Nat} (h : a.toInt = (k : Int)) : a.toNatClampNeg = k := by
  show a.toInt.toNat = k
  omega
/-- the reference's table of names -/
theorem y_named {A B : Int64} (hG : (u.1 61).toInt = (G : Int)) (hG2 : G ≤ 180) : pp (F_named N A B u) (fun r w => w = u ∧ ((r = -1 ∧ ∀ y, y < G → ¬ (u.2.2.2 57 y = A ∧ u.2.2.2 58 y = B)) ∨ (∃ y : Nat, y < G ∧ r.toInt = y ∧ u.2.2.2 57 y = A ∧ u.2.2.2 58 y = B))) := by
  have e1 : (1 : Int32).toInt = 1 := by decide
  have loop : ∀ (M : Nat) (a : Int64 × Int64 × Int32 × RSt), (a.1 = A ∧ a.2.1 = B ∧ a.2.2.2 = u ∧ ∃ l : Nat, a.2.2.1.toInt = l ∧ l ≤ G ∧ ∀ y, y < l → ¬ (u.2.2.2 57 y = A ∧ u.2.2.2 58 y = B)) → pp (LP_named_3 N M a) (fun r w => w = u ∧ ((r = -1 ∧ ∀ y, y < G → ¬ (u.2.2.2 57 y = A ∧ u.2.2.2 58 y = B)) ∨ (∃ y : Nat, y < G ∧ r.toInt = y ∧ u.2.2.2 57 y = A ∧ u.2.2.2 58 y = B))) := by
    refine pp_lp (Z := fun _ (r : Int32) w => w = u ∧ ((r = -1 ∧ ∀ y, y < G → ¬ (u.2.2.2 57 y = A ∧ u.2.2.2 58 y = B)) ∨ (∃ y : Nat, y < G ∧ r.toInt = y ∧ u.2.2.2 57 y = A ∧ u.2.2.2 58 y = B))) (fun (a : Int64 × Int64 × Int32 × RSt) => a.1 = A ∧ a.2.1 = B ∧ a.2.2.2 = u ∧ ∃ l : Nat, a.2.2.1.toInt = l ∧ l ≤ G ∧ ∀ y, y < l → ¬ (u.2.2.2 57 y = A ∧ u.2.2.2 58 y = B)) ?_
    rintro R ⟨a1, a2, a3, a4⟩ ⟨h1, h2, h3, l, h4, h5, h6⟩ ih
    dsimp only at h1 h2 h3 h4
    subst h1 h2 h3
    have en := n_of h4
    show pp (B_named_3 N R a1 a2 a3 a4) _
    unfold B_named_3 B_named_39
    refine pp_if (fun c => pp_some ⟨rfl, Or.inl ⟨rfl, ?_⟩⟩) (fun c => ?_)
    · have := Int32.le_iff_toInt_le.mp c
      have e : l = G := by omega
      subst e
      exact h6
    · have c' := Int32.lt_iff_toInt_lt.mp (Int32.not_le.mp c)
      have next : ¬ (a4.2.2.2 57 l = a1 ∧ a4.2.2.2 58 l = a2) → pp (R (a1, a2, a3 + 1, a4)) (fun r w => w = a4 ∧ ((r = -1 ∧ ∀ y, y < G → ¬ (a4.2.2.2 57 y = a1 ∧ a4.2.2.2 58 y = a2)) ∨ (∃ y : Nat, y < G ∧ r.toInt = y ∧ a4.2.2.2 57 y = a1 ∧ a4.2.2.2 58 y = a2))) := by
        intro hn
        refine ih _ ⟨rfl, rfl, rfl, l + 1, ?_, by omega, ?_⟩
        · rw [tI_add (by omega) (by omega), e1, h4]
          omega
        · intro y hy
          rcases Nat.lt_or_eq_of_le (Nat.lt_succ_iff.mp hy) with z | z
          · exact h6 y z
          · rw [z]; exact hn
      refine pp_rd ?_
      rw [en]
      refine pp_if (fun z => pp_rd ?_) (fun z => next (fun x => z x.1))
      rw [en]
      exact pp_if (fun z2 => pp_some ⟨rfl, Or.inr ⟨l, by omega, h4, z, z2⟩⟩) (fun z2 => next (fun x => z2 x.2))
  exact loop N (A, B, 0, u) ⟨rfl, rfl, rfl, 0, z32, Nat.zero_le _, fun y hy => absurd hy (Nat.not_lt_zero _)⟩
/-- the reference's slots of what is open -/
theorem y_slots {A B : Int64} {s : Nat} (hs : (u.1 56).toInt = (s : Int)) (hs2 : s < 2) (hF : (u.1 72).toInt = (F : Int)) (hK : (u.2.2.1 27 s).toInt = (T : Int)) (hFT : F ≤ T) (hT2 : T ≤ 160) : pp (F_slotOf N A B u) (fun r w => w = u ∧ ((r = -1 ∧ (u.1 70 ≤ 1 ∨ ∀ y, F ≤ y → y < T → ¬ (u.2.2.2 25 (160 * s + y) = A ∧ u.2.2.2 26 (160 * s + y) = B))) ∨ (∃ y : Nat, F ≤ y ∧ y < T ∧ ¬ u.1 70 ≤ 1 ∧ r.toInt = (160 * s + y : Nat) ∧ u.2.2.2 25 (160 * s + y) = A ∧ u.2.2.2 26 (160 * s + y) = B))) := by
  have e1 : (1 : Int32).toInt = 1 := by decide
  have e160 : (160 : Int32).toInt = 160 := by decide
  have sn := n_of hs
  have loop : ∀ (M : Nat) (a : Int64 × Int64 × Int32 × RSt), (a.1 = A ∧ a.2.1 = B ∧ a.2.2.2 = u ∧ ∃ l : Nat, a.2.2.1.toInt = l ∧ F ≤ l ∧ l ≤ T ∧ ∀ y, F ≤ y → y < l → ¬ (u.2.2.2 25 (160 * s + y) = A ∧ u.2.2.2 26 (160 * s + y) = B)) → pp (LP_slotOf_6 N M a) (fun r w => w = u ∧ ((r = -1 ∧ (u.1 70 ≤ 1 ∨ ∀ y, F ≤ y → y < T → ¬ (u.2.2.2 25 (160 * s + y) = A ∧ u.2.2.2 26 (160 * s + y) = B))) ∨ (∃ y : Nat, F ≤ y ∧ y < T ∧ ¬ u.1 70 ≤ 1 ∧ r.toInt = (160 * s + y : Nat) ∧ u.2.2.2 25 (160 * s + y) = A ∧ u.2.2.2 26 (160 * s + y) = B))) := by
    refine pp_lp (Z := fun _ (r : Int32) w => w = u ∧ ((r = -1 ∧ (u.1 70 ≤ 1 ∨ ∀ y, F ≤ y → y < T → ¬ (u.2.2.2 25 (160 * s + y) = A ∧ u.2.2.2 26 (160 * s + y) = B))) ∨ (∃ y : Nat, F ≤ y ∧ y < T ∧ ¬ u.1 70 ≤ 1 ∧ r.toInt = (160 * s + y : Nat) ∧ u.2.2.2 25 (160 * s + y) = A ∧ u.2.2.2 26 (160 * s + y) = B))) (fun (a : Int64 × Int64 × Int32 × RSt) => a.1 = A ∧ a.2.1 = B ∧ a.2.2.2 = u ∧ ∃ l : Nat, a.2.2.1.toInt = l ∧ F ≤ l ∧ l ≤ T ∧ ∀ y, F ≤ y → y < l → ¬ (u.2.2.2 25 (160 * s + y) = A ∧ u.2.2.2 26 (160 * s + y) = B)) ?_
    rintro R ⟨a1, a2, a3, a4⟩ ⟨h1, h2, h3, l, h4, h50, h5, h6⟩ ih
    dsimp only at h1 h2 h3 h4
    subst h1 h2 h3
    have ei : (160 * a4.1 56 + a3).toInt = (160 * s + l : Nat) := by
      have : (160 * a4.1 56).toInt = (160 * s : Nat) := by rw [tI_mul (by rw [e160, hs]; omega) (by rw [e160, hs]; omega), e160, hs]; omega
      rw [tI_add (by omega) (by omega), this, h4]
      omega
    have en := n_of ei
    show pp (B_slotOf_6 N R a1 a2 a3 a4) _
    unfold B_slotOf_6 B_slotOf_82
    refine pp_if (fun c => pp_some ⟨rfl, Or.inl ⟨rfl, Or.inl c⟩⟩) (fun c0 => pp_rd ?_)
    rw [sn]
    refine pp_if (fun c => pp_some ⟨rfl, Or.inl ⟨rfl, Or.inr ?_⟩⟩) (fun c => ?_)
    · have := Int32.le_iff_toInt_le.mp c
      have e : l = T := by omega
      subst e
      exact h6
    · have c' := Int32.lt_iff_toInt_lt.mp (Int32.not_le.mp c)
      have next : ¬ (a4.2.2.2 25 (160 * s + l) = a1 ∧ a4.2.2.2 26 (160 * s + l) = a2) → pp (R (a1, a2, a3 + 1, a4)) (fun r w => w = a4 ∧ ((r = -1 ∧ (a4.1 70 ≤ 1 ∨ ∀ y, F ≤ y → y < T → ¬ (a4.2.2.2 25 (160 * s + y) = a1 ∧ a4.2.2.2 26 (160 * s + y) = a2))) ∨ (∃ y : Nat, F ≤ y ∧ y < T ∧ ¬ a4.1 70 ≤ 1 ∧ r.toInt = (160 * s + y : Nat) ∧ a4.2.2.2 25 (160 * s + y) = a1 ∧ a4.2.2.2 26 (160 * s + y) = a2))) := by
        intro hn
        refine ih _ ⟨rfl, rfl, rfl, l + 1, ?_, by omega, by omega, ?_⟩
        · rw [tI_add (by omega) (by omega), e1, h4]
          omega
        · intro y hy0 hy
          rcases Nat.lt_or_eq_of_le (Nat.lt_succ_iff.mp hy) with z | z
          · exact h6 y hy0 z
          · rw [z]; exact hn
      refine pp_rd ?_
      rw [en]
      refine pp_if (fun z => pp_rd ?_) (fun z => next (fun x => z x.1))
      rw [en]
      exact pp_if (fun z2 => pp_some ⟨rfl, Or.inr ⟨l, h50, by omega, c0, ei, z, z2⟩⟩) (fun z2 => next (fun x => z2 x.2))
  exact loop N (A, B, u.1 72, u) ⟨rfl, rfl, rfl, F, hF, Nat.le_refl _, hFT, fun y h1 h2 => absurd h2 (Nat.not_lt.mpr h1)⟩
/-- the class's names -/
theorem k2_ofText {H : Int64} {t : Int32} (hT : (pI v q 12).toInt = (T : Int)) (hT2 : T ≤ 160) : pq (F_X6_ofText N q H t v) (fun r w => w = v ∧ ((∃ x, x < T ∧ r = 169 * q + x ∧ gl v (169 * q + x) ∧ mL v (169 * q + x) 0 = H ∧ mI v (169 * q + x) 1 = t) ∨ ((∀ x, x < T → gl v (169 * q + x) → ¬ (mL v (169 * q + x) 0 = H ∧ mI v (169 * q + x) 1 = t)) ∧ ((∃ k, k < 8 ∧ t = 0 ∧ mL v (169 * q + (160 + k)) 0 = H ∧ r = 169 * q + (160 + k)) ∨ ((¬ t = 0 ∨ ∀ k, k < 8 → ¬ mL v (169 * q + (160 + k)) 0 = H) ∧ r = 169 * q + 168))))) := by
  have e1 : (1 : Int32).toInt = 1 := by decide
  have e8 : (8 : Int32).toInt = 8 := by decide
  have loop2 : ∀ (M : Nat) (a : Nat × Int64 × Int32 × Int32 × CSt), (a.1 = q ∧ a.2.1 = H ∧ a.2.2.1 = t ∧ a.2.2.2.2 = v ∧ ∃ l : Nat, a.2.2.2.1.toInt = l ∧ l ≤ 8 ∧ ∀ k, k < l → ¬ mL v (169 * q + (160 + k)) 0 = H) → pq (LP_X6_ofText_61 N M a) (fun r w => w = v ∧ ((∃ k, k < 8 ∧ t = 0 ∧ mL v (169 * q + (160 + k)) 0 = H ∧ r = 169 * q + (160 + k)) ∨ ((¬ t = 0 ∨ ∀ k, k < 8 → ¬ mL v (169 * q + (160 + k)) 0 = H) ∧ r = 169 * q + 168))) := by
    refine pq_lp (Z := fun _ r w => w = v ∧ ((∃ k, k < 8 ∧ t = 0 ∧ mL v (169 * q + (160 + k)) 0 = H ∧ r = 169 * q + (160 + k)) ∨ ((¬ t = 0 ∨ ∀ k, k < 8 → ¬ mL v (169 * q + (160 + k)) 0 = H) ∧ r = 169 * q + 168))) (fun (a : Nat × Int64 × Int32 × Int32 × CSt) => a.1 = q ∧ a.2.1 = H ∧ a.2.2.1 = t ∧ a.2.2.2.2 = v ∧ ∃ l : Nat, a.2.2.2.1.toInt = l ∧ l ≤ 8 ∧ ∀ k, k < l → ¬ mL v (169 * q + (160 + k)) 0 = H) ?_
    rintro R ⟨a0, a1, a2, a3, a4⟩ ⟨h0, h1, h2, h3, l, h4, h5, h6⟩ ih
    dsimp only at h0 h1 h2 h3 h4
    subst h0 h1 h2 h3
    have en := n_of h4
    show pq (B_X6_ofText_61 N R a0 a1 a2 a3 a4) _
    unfold B_X6_ofText_61
    refine pq_if (fun c => pq_some ⟨rfl, Or.inr ⟨Or.inr ?_, rfl⟩⟩) (fun c => ?_)
    · have := Int32.le_iff_toInt_le.mp c
      have e : l = 8 := by omega
      subst e
      exact h6
    · have c' := Int32.lt_iff_toInt_lt.mp (Int32.not_le.mp c)
      refine pq_if (fun z => pq_ix (fun _ => ?_)) (fun z => pq_some ⟨rfl, Or.inr ⟨Or.inl z, rfl⟩⟩)
      rw [en]
      refine pq_if (fun z2 => pq_ix (fun _ => pq_some ⟨rfl, Or.inl ⟨l, by omega, z, z2, rfl⟩⟩)) (fun z2 => ?_)
      refine ih _ ⟨rfl, rfl, rfl, rfl, l + 1, ?_, by omega, ?_⟩
      · rw [tI_add (by omega) (by omega), e1, h4]
        omega
      · intro y hy
        rcases Nat.lt_or_eq_of_le (Nat.lt_succ_iff.mp hy) with x | x
        · exact h6 y x
        · rw [x]; exact z2
  have loop : ∀ (M : Nat) (a : Nat × Int64 × Int32 × Int32 × CSt), (a.1 = q ∧ a.2.1 = H ∧ a.2.2.1 = t ∧ a.2.2.2.2 = v ∧ ∃ l : Nat, a.2.2.2.1.toInt = l ∧ l ≤ T ∧ ∀ x, x < l → gl v (169 * q + x) → ¬ (mL v (169 * q + x) 0 = H ∧ mI v (169 * q + x) 1 = t)) → pq (LP_X6_ofText_3 N M a) (fun r w => w = v ∧ ((∃ x, x < T ∧ r = 169 * q + x ∧ gl v (169 * q + x) ∧ mL v (169 * q + x) 0 = H ∧ mI v (169 * q + x) 1 = t) ∨ ((∀ x, x < T → gl v (169 * q + x) → ¬ (mL v (169 * q + x) 0 = H ∧ mI v (169 * q + x) 1 = t)) ∧ ((∃ k, k < 8 ∧ t = 0 ∧ mL v (169 * q + (160 + k)) 0 = H ∧ r = 169 * q + (160 + k)) ∨ ((¬ t = 0 ∨ ∀ k, k < 8 → ¬ mL v (169 * q + (160 + k)) 0 = H) ∧ r = 169 * q + 168))))) := by
    refine pq_lp (Z := fun _ r w => w = v ∧ ((∃ x, x < T ∧ r = 169 * q + x ∧ gl v (169 * q + x) ∧ mL v (169 * q + x) 0 = H ∧ mI v (169 * q + x) 1 = t) ∨ ((∀ x, x < T → gl v (169 * q + x) → ¬ (mL v (169 * q + x) 0 = H ∧ mI v (169 * q + x) 1 = t)) ∧ ((∃ k, k < 8 ∧ t = 0 ∧ mL v (169 * q + (160 + k)) 0 = H ∧ r = 169 * q + (160 + k)) ∨ ((¬ t = 0 ∨ ∀ k, k < 8 → ¬ mL v (169 * q + (160 + k)) 0 = H) ∧ r = 169 * q + 168))))) (fun (a : Nat × Int64 × Int32 × Int32 × CSt) => a.1 = q ∧ a.2.1 = H ∧ a.2.2.1 = t ∧ a.2.2.2.2 = v ∧ ∃ l : Nat, a.2.2.2.1.toInt = l ∧ l ≤ T ∧ ∀ x, x < l → gl v (169 * q + x) → ¬ (mL v (169 * q + x) 0 = H ∧ mI v (169 * q + x) 1 = t)) ?_
    rintro R ⟨a0, a1, a2, a3, a4⟩ ⟨h0, h1, h2, h3, l, h4, h5, h6⟩ ih
    dsimp only at h0 h1 h2 h3 h4
    subst h0 h1 h2 h3
    have en := n_of h4
    show pq (B_X6_ofText_3 N R a0 a1 a2 a3 a4) _
    unfold B_X6_ofText_3 B_X6_ofText_52
    refine pq_if (fun c => ?_) (fun c => pq_ix (fun _ => ?_))
    · have := Int32.le_iff_toInt_le.mp c
      have e : l = T := by omega
      subst e
      exact pq_m (loop2 N (a0, a1, a2, 0, a4) ⟨rfl, rfl, rfl, rfl, 0, z32, by omega, fun y hy => absurd hy (Nat.not_lt_zero _)⟩) (fun r w hw => ⟨hw.1, Or.inr ⟨h6, hw.2⟩⟩)
    · have c' := Int32.lt_iff_toInt_lt.mp (Int32.not_le.mp c)
      have next : (gl a4 (169 * a0 + l) → ¬ (mL a4 (169 * a0 + l) 0 = a1 ∧ mI a4 (169 * a0 + l) 1 = a2)) → pq (R (a0, a1, a2, a3 + 1, a4)) (fun r w => w = a4 ∧ ((∃ x, x < T ∧ r = 169 * a0 + x ∧ gl a4 (169 * a0 + x) ∧ mL a4 (169 * a0 + x) 0 = a1 ∧ mI a4 (169 * a0 + x) 1 = a2) ∨ ((∀ x, x < T → gl a4 (169 * a0 + x) → ¬ (mL a4 (169 * a0 + x) 0 = a1 ∧ mI a4 (169 * a0 + x) 1 = a2)) ∧ ((∃ k, k < 8 ∧ a2 = 0 ∧ mL a4 (169 * a0 + (160 + k)) 0 = a1 ∧ r = 169 * a0 + (160 + k)) ∨ ((¬ a2 = 0 ∨ ∀ k, k < 8 → ¬ mL a4 (169 * a0 + (160 + k)) 0 = a1) ∧ r = 169 * a0 + 168))))) := by
        intro hn
        refine ih _ ⟨rfl, rfl, rfl, rfl, l + 1, ?_, by omega, ?_⟩
        · rw [tI_add (by omega) (by omega), e1, h4]
          omega
        · intro y hy
          rcases Nat.lt_or_eq_of_le (Nat.lt_succ_iff.mp hy) with x | x
          · exact h6 y x
          · rw [x]; exact hn
      rw [en]
      refine pq_if (fun z => pq_if (fun z2 => pq_if (fun z3 => next (fun g => absurd z3 g)) (fun z3 => pq_some ⟨rfl, Or.inl ⟨l, by omega, rfl, z3, z, z2⟩⟩)) (fun z2 => next (fun _ x => z2 x.2))) (fun z => next (fun _ x => z x.1))
  exact loop N (q, H, t, 0, v) ⟨rfl, rfl, rfl, rfl, 0, z32, Nat.zero_le _, fun y hy => absurd hy (Nat.not_lt_zero _)⟩
/-- the class's names of a routine -/
theorem k2_called {H : Int64} {t : Int32} {m b K : Nat} (hb : (mI v m 3).toInt + 1 = (b : Int)) (hK : (mI v m 12).toInt = (K : Int)) (hT : (pI v q 12).toInt = (T : Int)) (hT2 : T ≤ 160) (hbK : b + K ≤ T ∨ K = 0) (hb2 : b ≤ 400) : pq (F_X6_localCalled N q m H t v) (fun r w => w = v ∧ ((∃ x, x < K ∧ r = 169 * q + (b + x) ∧ mL v (169 * q + (b + x)) 0 = H ∧ mI v (169 * q + (b + x)) 1 = t) ∨ ((∀ x, x < K → ¬ (mL v (169 * q + (b + x)) 0 = H ∧ mI v (169 * q + (b + x)) 1 = t)) ∧ r = 169 * q + 168))) := by
  have e1 : (1 : Int32).toInt = 1 := by decide
  have eb : (mI v m 3 + 1).toInt = (b : Int) := by rw [tI_add (by omega) (by omega), e1]; omega
  have eK : (mI v m 3 + 1 + mI v m 12).toInt = (b + K : Nat) := by
    have : b + K ≤ 600 := by omega
    rw [tI_add (by omega) (by omega), eb, hK]
    omega
  have loop : ∀ (M : Nat) (a : Nat × Nat × Int64 × Int32 × Int32 × Int32 × CSt), (a.1 = q ∧ a.2.1 = m ∧ a.2.2.1 = H ∧ a.2.2.2.1 = t ∧ a.2.2.2.2.1 = mI v m 3 + 1 ∧ a.2.2.2.2.2.2 = v ∧ ∃ l : Nat, a.2.2.2.2.2.1.toInt = (b + l : Nat) ∧ l ≤ K ∧ ∀ x, x < l → ¬ (mL v (169 * q + (b + x)) 0 = H ∧ mI v (169 * q + (b + x)) 1 = t)) → pq (LP_X6_localCalled_12 N M a) (fun r w => w = v ∧ ((∃ x, x < K ∧ r = 169 * q + (b + x) ∧ mL v (169 * q + (b + x)) 0 = H ∧ mI v (169 * q + (b + x)) 1 = t) ∨ ((∀ x, x < K → ¬ (mL v (169 * q + (b + x)) 0 = H ∧ mI v (169 * q + (b + x)) 1 = t)) ∧ r = 169 * q + 168))) := by
    refine pq_lp (Z := fun _ r w => w = v ∧ ((∃ x, x < K ∧ r = 169 * q + (b + x) ∧ mL v (169 * q + (b + x)) 0 = H ∧ mI v (169 * q + (b + x)) 1 = t) ∨ ((∀ x, x < K → ¬ (mL v (169 * q + (b + x)) 0 = H ∧ mI v (169 * q + (b + x)) 1 = t)) ∧ r = 169 * q + 168))) (fun (a : Nat × Nat × Int64 × Int32 × Int32 × Int32 × CSt) => a.1 = q ∧ a.2.1 = m ∧ a.2.2.1 = H ∧ a.2.2.2.1 = t ∧ a.2.2.2.2.1 = mI v m 3 + 1 ∧ a.2.2.2.2.2.2 = v ∧ ∃ l : Nat, a.2.2.2.2.2.1.toInt = (b + l : Nat) ∧ l ≤ K ∧ ∀ x, x < l → ¬ (mL v (169 * q + (b + x)) 0 = H ∧ mI v (169 * q + (b + x)) 1 = t)) ?_
    rintro R ⟨a0, a1, a2, a3, a5, a6, a4⟩ ⟨h0, h1, h2, h3, h7, h8, l, h4, h5, h6⟩ ih
    dsimp only at h0 h1 h2 h3 h4 h7 h8
    subst h0 h1 h2 h3 h8 h7
    have en := n_of h4
    show pq (B_X6_localCalled_12 N R a0 a1 a2 a3 (mI a4 a1 3 + 1) a6 a4) _
    unfold B_X6_localCalled_12 B_X6_localCalled_71
    refine pq_if (fun c => ?_) (fun c => ?_)
    · have := Int32.le_iff_toInt_le.mp c
      have e : l = K := by omega
      subst e
      exact pq_some ⟨rfl, Or.inr ⟨h6, rfl⟩⟩
    · have c' := Int32.lt_iff_toInt_lt.mp (Int32.not_le.mp c)
      refine pq_if (fun c2 => ?_) (fun c2 => pq_ix (fun _ => ?_))
      · have := Int32.le_iff_toInt_le.mp c2
        omega
      have next : ¬ (mL a4 (169 * a0 + (b + l)) 0 = a2 ∧ mI a4 (169 * a0 + (b + l)) 1 = a3) → pq (R (a0, a1, a2, a3, mI a4 a1 3 + 1, a6 + 1, a4)) (fun r w => w = a4 ∧ ((∃ x, x < K ∧ r = 169 * a0 + (b + x) ∧ mL a4 (169 * a0 + (b + x)) 0 = a2 ∧ mI a4 (169 * a0 + (b + x)) 1 = a3) ∨ ((∀ x, x < K → ¬ (mL a4 (169 * a0 + (b + x)) 0 = a2 ∧ mI a4 (169 * a0 + (b + x)) 1 = a3)) ∧ r = 169 * a0 + 168))) := by
        intro hn
        refine ih _ ⟨rfl, rfl, rfl, rfl, rfl, rfl, l + 1, ?_, by omega, ?_⟩
        · rw [tI_add (by omega) (by omega), e1, h4]
          omega
        · intro y hy
          rcases Nat.lt_or_eq_of_le (Nat.lt_succ_iff.mp hy) with x | x
          · exact h6 y x
          · rw [x]; exact hn
      rw [en]
      refine pq_if (fun z => pq_ix (fun _ => pq_if (fun z2 => pq_ix (fun _ => pq_some ⟨rfl, Or.inl ⟨l, by omega, rfl, z, z2⟩⟩)) (fun z2 => next (fun x => z2 x.2)))) (fun z => next (fun x => z x.1))
  exact loop N (q, m, H, t, mI v m 3 + 1, mI v m 3 + 1, v) ⟨rfl, rfl, rfl, rfl, rfl, rfl, 0, by rw [eb]; rfl, Nat.zero_le _, fun y hy => absurd hy (Nat.not_lt_zero _)⟩
theorem k2_name {x : Nat} {a : Int32} (ha : a.toInt = (x : Int)) (hT : (pI v q 12).toInt = (T : Int)) (hx : x < T) : pq (F_X6_name N q a v) (fun r w => r = 169 * q + x ∧ w = v) := by
  have e0 : (0 : Int32).toInt = 0 := by decide
  unfold F_X6_name B_X6_name_0
  refine pq_if (fun c => ?_) (fun _ => pq_if (fun c => ?_) (fun _ => pq_ix (fun _ => pq_some ⟨by rw [n_of ha], rfl⟩)))
  · have := Int32.lt_iff_toInt_lt.mp c
    omega
  · have := Int32.le_iff_toInt_le.mp c
    omega
theorem k2_noname {a : Int32} (ha : a.toInt < 0) : pq (F_X6_name N q a v) (fun r w => r = 169 * q + 168 ∧ w = v) := by
  have e0 : (0 : Int32).toInt = 0 := by decide
  unfold F_X6_name B_X6_name_0
  refine pq_if (fun c => pq_some ⟨rfl, rfl⟩) (fun c => ?_)
  exact absurd (Int32.lt_iff_toInt_lt.mpr (by omega)) c
end Lk
