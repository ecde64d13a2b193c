/-! The second pass: what NAMEs mean, by the tables. -/
section Tb2
variable {v0 v : CSt} {u0 u : RSt} {i n q s T G r K F P N : Nat}
theorem FI_of {b : Int32} (h : RRr v0 u0 q s T r K F P) (h8 : mI v0 (169 * q + 168) 2 = 8) (hT : (pI v0 q 12).toInt = (T : Int)) (hT2 : T ≤ 160) (hx : (mI v0 (169 * q + r) 3).toInt = r) (hq : cR v0 3 = q) (hs : (u0.1 56).toInt = (s : Int)) (hs2 : s < 2) (hj : ¬ u0.1 69 = 0) (hb : b.toInt = (bk v0 (169 * q + r) s : Nat)) (hn : ∀ i, i < n → tyF v0 i = 128 → NmR (cB v0 205 i) (cA v0 206 i) (u0.2.2.2 6 i) (u0.2.2.2 7 i)) : FI v0 u0 n (169 * q + r) b := by
  intro i hi ht
  have hnm := hn i hi ht
  have h0 := h
  obtain ⟨a1, a2, a3, a4, a5, a6, a7, a8, a9, a10, a11, a12, a13, a14, a15, a16, a17⟩ := h0
  have nm : ∀ j, j < K → ((mL v0 (169 * q + (r + 1 + j)) 0 = cB v0 205 i ∧ mI v0 (169 * q + (r + 1 + j)) 1 = cA v0 206 i) ↔ (u0.2.2.2 25 (160 * s + (F + j)) = u0.2.2.2 6 i ∧ u0.2.2.2 26 (160 * s + (F + j)) = u0.2.2.2 7 i)) := fun j hjK => NmR_eq (a16 j hjK).2.2.2.2.2.2.1 hnm
  have cls : ∀ N v l e, CE v0 v i l e → pq (F_X6_localCalled N (cR v0 3) (169 * q + r) (cB v0 205 i) (cA v0 206 i) v) (fun x w => w = v ∧ ((∃ y, y < K ∧ x = 169 * q + (r + 1 + y) ∧ mL v0 (169 * q + (r + 1 + y)) 0 = cB v0 205 i ∧ mI v0 (169 * q + (r + 1 + y)) 1 = cA v0 206 i) ∨ ((∀ y, y < K → ¬ (mL v0 (169 * q + (r + 1 + y)) 0 = cB v0 205 i ∧ mI v0 (169 * q + (r + 1 + y)) 1 = cA v0 206 i)) ∧ x = 169 * q + 168))) := by
    intro N v l e hc
    rw [hq]
    refine pq_m (k2_called (b := r + 1) (K := K) (T := T) (by rw [hc.nm, hx]; omega) (by rw [hc.nm]; exact a4) (by rw [hc.pi q (by decide)]; exact hT) hT2 (Or.inl (by omega)) (by omega)) (fun x w hw => ⟨hw.1, ?_⟩)
    rcases hw.2 with ⟨y, w1, w2, w3, w4⟩ | ⟨w1, w2⟩
    · rw [hc.nl] at w3
      rw [hc.nm] at w4
      exact Or.inl ⟨y, w1, w2, w3, w4⟩
    · refine Or.inr ⟨fun y hy z => w1 y hy ?_, w2⟩
      rw [hc.nl, hc.nm]
      exact z
  by_cases hex : ∃ j, j < K ∧ mL v0 (169 * q + (r + 1 + j)) 0 = cB v0 205 i ∧ mI v0 (169 * q + (r + 1 + j)) 1 = cA v0 206 i
  · obtain ⟨j, e1, e2, e3⟩ := hex
    have xi : (Int32.ofNat (160 * s + (F + j))).toInt = (160 * s + (F + j) : Nat) := ofN_i (by omega)
    refine ⟨169 * q + (r + 1 + j), Int32.ofNat (160 * s + (F + j)), fun N v l e hc => ?_, fun N ro l1 l2 u o l c Q hr kk => ?_, Or.inr ⟨?_, ?_, ?_⟩⟩
    · refine pq_m (cls N v l e hc) (fun x w hw => ⟨?_, hw.1⟩)
      rcases hw.2 with ⟨y, w1, w2, w3, w4⟩ | ⟨w1, -⟩
      · have := a17 y j w1 e1 (w3.trans e2.symm) (w4.trans e3.symm)
        rw [w2, this]
      · exact absurd ⟨e2, e3⟩ (w1 j e1)
    · refine y_inner h hs hs2 hj hb (Or.inr ⟨j, e1, xi, (nm j e1).mp ⟨e2, e3⟩, fun j' hj' hm => ?_⟩) hr kk
      have := (nm j' hj').mpr hm
      exact a17 j' j hj' e1 (this.1.trans e2.symm) (this.2.trans e3.symm)
    · intro z
      rw [z] at xi
      have : (-1 : Int32).toInt = -1 := by decide
      omega
    · rw [(a16 j e1).1]
      split <;> decide
    · rw [n_of xi]
      obtain ⟨b1, b2, b3, b4, b5, b6, b7, b8⟩ := (a16 j e1).2
      exact ⟨b1.symm, b3.symm, b7, b8⟩
  · refine ⟨169 * q + 168, -1, fun N v l e hc => ?_, fun N ro l1 l2 u o l c Q hr kk => ?_, Or.inl ⟨rfl, h8⟩⟩
    · refine pq_m (cls N v l e hc) (fun x w hw => ⟨?_, hw.1⟩)
      rcases hw.2 with ⟨y, w1, w2, w3, w4⟩ | ⟨-, w2⟩
      · exact absurd ⟨y, w1, w3, w4⟩ hex
      · exact w2
    · refine y_inner h hs hs2 hj hb (Or.inl ⟨rfl, fun j hjK hm => hex ?_⟩) hr kk
      exact ⟨j, hjK, (nm j hjK).mpr hm⟩
theorem y_slots0 {A B : Int64} (h : u.1 70 ≤ 1) : pp (F_slotOf N A B u) (fun r w => w = u ∧ r = -1) := by
  unfold F_slotOf B_slotOf_0
  have : ∀ M, pp (LP_slotOf_6 N M (A, B, u.1 72, u)) (fun r w => w = u ∧ r = -1) := by
    intro M
    cases M with
    | zero => exact fun _ _ e => nomatch (show (none : Option (Int32 × RSt)) = _ from e)
    | succ M =>
      show pp (B_slotOf_6 N (LP_slotOf_6 N M) A B (u.1 72) u) _
      unfold B_slotOf_6
      rw [if_pos h]
      exact pp_some ⟨rfl, rfl⟩
  exact this N
/-- the locals that a NAME may mean here -/
theorem loc_of (h : TR v0 u0 q s T G) (hO : OWN v0 u0 q s T) : ∃ om b K F : Nat, (∀ N v i l e, CE v0 v i l e → pq (F_X6_name N q (pI v0 q 15) v) (fun x w => x = om ∧ w = v)) ∧ (mI v0 om 3).toInt + 1 = (b : Int) ∧ (mI v0 om 12).toInt = (K : Int) ∧ (b + K ≤ T ∨ K = 0) ∧ b ≤ 400 ∧ F + K ≤ 160 ∧ (∀ j, j < K → (mI v0 (169 * q + (b + j)) 2 = 5 ∨ mI v0 (169 * q + (b + j)) 2 = 6) ∧ SL v0 u0 (169 * q + (b + j)) (160 * s + (F + j)) ∧ rN v0 u0 (169 * q + (b + j)) 25 26 (160 * s + (F + j))) ∧ (∀ j j', j < K → j' < K → mL v0 (169 * q + (b + j)) 0 = mL v0 (169 * q + (b + j')) 0 → mI v0 (169 * q + (b + j)) 1 = mI v0 (169 * q + (b + j')) 1 → j = j') ∧ (∀ N u i o l c A B, RE u0 u i o l c → pp (F_slotOf N A B u) (fun r w => w = u ∧ ((r = -1 ∧ ∀ j, j < K → ¬ (u0.2.2.2 25 (160 * s + (F + j)) = A ∧ u0.2.2.2 26 (160 * s + (F + j)) = B)) ∨ (∃ j, j < K ∧ r.toInt = (160 * s + (F + j) : Nat) ∧ u0.2.2.2 25 (160 * s + (F + j)) = A ∧ u0.2.2.2 26 (160 * s + (F + j)) = B)))) := by
  obtain ⟨t1, t2, t3, t4, t5, t5', t6, t7, t8, t9, t10, t11, t12, t13, t14, t15, t16, t17⟩ := h
  rcases hO with ⟨o1, o2⟩ | ⟨r, K, F, P, o1, o2, o3, o4, o5, o6, o7, o8, o9, o10, o11⟩
  · refine ⟨169 * q + 168, ((mI v0 (169 * q + 168) 3).toInt + 1).toNat, 0, 0, fun N v i l e _ => k2_noname o1, ?_, ?_, Or.inr rfl, ?_, by omega, fun j hj => absurd hj (Nat.not_lt_zero _), fun j j' hj => absurd hj (Nat.not_lt_zero _), fun N u i o l c A B hr => ?_⟩
    · have := t14.2.2.1
      omega
    · rw [t14.2.1]; rfl
    · have := t14.2.2.2.1
      omega
    · refine pp_m (y_slots0 (by rw [hr.sc (by decide)]; exact o2)) (fun r w hw => ⟨hw.1, Or.inl ⟨hw.2, fun j hj => absurd hj (Nat.not_lt_zero _)⟩⟩)
  · have o4' := o4
    obtain ⟨a1, a2, a3, a4, a5, a6, a7, a8, a9, a10, a11, a12, a13, a14, a15, a16, a17⟩ := o4'
    refine ⟨169 * q + r, r + 1, K, F, fun N v i l e hc => ?_, ?_, a4, Or.inl (by omega), by omega, by omega, fun j hj => ?_, a17, fun N u i o l c A B hr => ?_⟩
    · exact k2_name o2 (by rw [hc.pi q (by decide)]; exact t1) o1
    · rw [(t11 r o1).1]; omega
    · obtain ⟨b1, b2⟩ := a16 j hj
      obtain ⟨c1, c2, c3, c4, c5, c6, c7, c8⟩ := b2
      refine ⟨?_, ⟨c1.symm, c3.symm, c7, c8⟩, c6⟩
      rw [b1]
      split
      · exact Or.inl rfl
      · exact Or.inr rfl
    · have hu25 : u.2.2.2 25 = u0.2.2.2 25 := hr.lrow (by decide)
      have hu26 : u.2.2.2 26 = u0.2.2.2 26 := hr.lrow (by decide)
      refine pp_m (y_slots (T := F + K) (s := s) (F := F) (by rw [hr.sc (by decide)]; exact t6) t7 (by rw [hr.sc (by decide)]; exact o6) (by rw [hr.row (by decide)]; exact o7) (by omega) (by omega)) (fun x w hw => ⟨hw.1, ?_⟩)
      rw [hu25, hu26, hr.sc (k := 70) (by decide)] at hw
      rcases hw.2 with ⟨w1, w2⟩ | ⟨y, w1, w2, w3, w4, w5, w6⟩
      · refine Or.inl ⟨w1, fun j hj hm => ?_⟩
        rcases w2 with w2 | w2
        · exact o8 w2
        · exact w2 (F + j) (by omega) (by omega) hm
      · have ey : F + (y - F) = y := by omega
        refine Or.inr ⟨y - F, by omega, ?_, ?_, ?_⟩
        · rw [ey]; exact w4
        · rw [ey]; exact w5
        · rw [ey]; exact w6
theorem EV_of (hTB : TB v0 n) (hRT : RT (tyF v0) (u0.2.2.1 2) n) (hk : TKs v0 u0 n) (hp : cA v0 204 n = u0.2.2.1 3 n) (hj : ¬ u0.1 69 = 0) (h : TR v0 u0 q s T G) (hO : OWN v0 u0 q s T) : EV2 v0 u0 n := by
  obtain ⟨om, b, K, F, d1, d2, d3, d4, d5, d6, d7, d8, d9⟩ := loc_of h hO
  obtain ⟨t1, t2, t3, t4, t5, t5', t6, t7, t8, t9, t10, t11, t12, t13, t14, t15, t16, t17⟩ := h
  have hnm : ∀ i, i < n → tyF v0 i = 128 → NmR (cB v0 205 i) (cA v0 206 i) (u0.2.2.2 6 i) (u0.2.2.2 7 i) := fun i hi ht => (hk i hi).2.2.2.2 ht
  refine ⟨hTB, hRT, hk, hp, hj, by rw [t9, t10], fun i hi ht => ?_⟩
  have hn := hnm i hi ht
  have m1 : (-1 : Int32).toInt = -1 := by decide
  have e5i : (5 : Int32).toInt = 5 := by decide
  have e4i : (4 : Int32).toInt = 4 := by decide
  obtain ⟨g1, g2, g3, g4⟩ := t13
  obtain ⟨f1, f2, f3, f4, f5, f6⟩ := t14
  have nl : ∀ j, j < K → ((mL v0 (169 * q + (b + j)) 0 = cB v0 205 i ∧ mI v0 (169 * q + (b + j)) 1 = cA v0 206 i) ↔ (u0.2.2.2 25 (160 * s + (F + j)) = u0.2.2.2 6 i ∧ u0.2.2.2 26 (160 * s + (F + j)) = u0.2.2.2 7 i)) := fun j hjK => NmR_eq (d7 j hjK).2.2 hn
  have ng : ∀ {m y : Nat}, rN v0 u0 m 57 58 y → ((mL v0 m 0 = cB v0 205 i ∧ mI v0 m 1 = cA v0 206 i) ↔ (u0.2.2.2 57 y = u0.2.2.2 6 i ∧ u0.2.2.2 58 y = u0.2.2.2 7 i)) := fun hr => NmR_eq hr hn
  have n8 : ∀ {k : Nat}, k < 8 → ((mL v0 (169 * q + (160 + k)) 0 = cB v0 205 i ∧ 0 = cA v0 206 i) ↔ (u0.2.2.2 57 k = u0.2.2.2 6 i ∧ u0.2.2.2 58 k = u0.2.2.2 7 i)) := fun hk8 => NmR_eq (f5 _ hk8).2.1 hn
  have cls : ∀ N v l e, CE v0 v i l e → pq (F_X8_known N v) (fun x w => w = v ∧ ((∃ y, y < K ∧ x = 169 * q + (b + y) ∧ mL v0 (169 * q + (b + y)) 0 = cB v0 205 i ∧ mI v0 (169 * q + (b + y)) 1 = cA v0 206 i) ∨ ((∀ y, y < K → ¬ (mL v0 (169 * q + (b + y)) 0 = cB v0 205 i ∧ mI v0 (169 * q + (b + y)) 1 = cA v0 206 i)) ∧ ((∃ y, y < T ∧ x = 169 * q + y ∧ gl v0 (169 * q + y) ∧ mL v0 (169 * q + y) 0 = cB v0 205 i ∧ mI v0 (169 * q + y) 1 = cA v0 206 i) ∨ ((∀ y, y < T → gl v0 (169 * q + y) → ¬ (mL v0 (169 * q + y) 0 = cB v0 205 i ∧ mI v0 (169 * q + y) 1 = cA v0 206 i)) ∧ ((∃ k, k < 8 ∧ cA v0 206 i = 0 ∧ mL v0 (169 * q + (160 + k)) 0 = cB v0 205 i ∧ x = 169 * q + (160 + k)) ∨ ((¬ cA v0 206 i = 0 ∨ ∀ k, k < 8 → ¬ mL v0 (169 * q + (160 + k)) 0 = cB v0 205 i) ∧ x = 169 * q + 168))))))) := by
    intro N v l e hc
    have glv : ∀ m, gl v m ↔ gl v0 m := fun m => by unfold gl; rw [hc.nm]
    unfold F_X8_known B_X8_known_0
    refine k2_head hc (k2_tail hc (pq_ok (fun _ => ?_)))
    rw [hc.rf, t10, hc.pi q (by decide)]
    refine pq_bc (pq_m (d1 N v i l e hc) (fun x1 w1 hw1 => ?_))
    rw [hw1.1, hw1.2]
    refine pq_ok (fun _ => pq_bc (pq_m (k2_called (b := b) (K := K) (T := T) (by rw [hc.nm]; exact d2) (by rw [hc.nm]; exact d3) (by rw [hc.pi q (by decide)]; exact t1) t2 d4 d5) (fun x2 w2 hw2 => ?_)))
    rw [hw2.1]
    refine pq_ok (fun _ => ?_)
    rw [hc.nm]
    rcases hw2.2 with ⟨y, y1, y2, y3, y4⟩ | ⟨y1, y2⟩
    · rw [hc.nl] at y3
      rw [hc.nm] at y4
      rw [y2, if_neg (by rcases (d7 y y1).1 with z | z <;> (rw [z]; decide))]
      exact pq_some ⟨rfl, Or.inl ⟨y, y1, rfl, y3, y4⟩⟩
    · have hno : ∀ y, y < K → ¬ (mL v0 (169 * q + (b + y)) 0 = cB v0 205 i ∧ mI v0 (169 * q + (b + y)) 1 = cA v0 206 i) := fun y hy hm => y1 y hy (by rw [hc.nl, hc.nm]; exact hm)
      rw [y2, if_pos f1]
      refine pq_ok (fun _ => ?_)
      rw [hc.rf, t10]
      refine pq_bc (pq_m (k2_ofText (T := T) (by rw [hc.pi q (by decide)]; exact t1) t2) (fun x3 w3 hw3 => ?_))
      rw [hw3.1]
      refine pq_ok (fun _ => pq_some ⟨rfl, Or.inr ⟨hno, ?_⟩⟩)
      rcases hw3.2 with ⟨y, z1, z2, z3, z4, z5⟩ | ⟨z1, z2⟩
      · rw [hc.nl] at z4
        rw [hc.nm] at z5
        exact Or.inl ⟨y, z1, z2, (glv _).mp z3, z4, z5⟩
      · refine Or.inr ⟨fun y hy hg hm => z1 y hy ((glv _).mpr hg) (by rw [hc.nl, hc.nm]; exact hm), ?_⟩
        rcases z2 with ⟨k, k1, k2, k3, k4⟩ | ⟨k1, k2⟩
        · rw [hc.nl] at k3
          exact Or.inl ⟨k, k1, k2, k3, k4⟩
        · refine Or.inr ⟨?_, k2⟩
          rcases k1 with k1 | k1
          · exact Or.inl k1
          · exact Or.inr (fun k hk8 hm => k1 k hk8 (by rw [hc.nl]; exact hm))
  have own : ∀ N u o l c a, RE u0 u i o l c → pp (F_own N a u) (fun r w => w = u ∧ (((∃ j, j < K ∧ u0.2.2.2 25 (160 * s + (F + j)) = u0.2.2.2 6 i ∧ u0.2.2.2 26 (160 * s + (F + j)) = u0.2.2.2 7 i) ∧ r = -1) ∨ ((∀ j, j < K → ¬ (u0.2.2.2 25 (160 * s + (F + j)) = u0.2.2.2 6 i ∧ u0.2.2.2 26 (160 * s + (F + j)) = u0.2.2.2 7 i)) ∧ (((∀ y, y < G → ¬ (u0.2.2.2 57 y = u0.2.2.2 6 i ∧ u0.2.2.2 58 y = u0.2.2.2 7 i)) ∧ r = -1) ∨ (∃ y, y < G ∧ u0.2.2.2 57 y = u0.2.2.2 6 i ∧ u0.2.2.2 58 y = u0.2.2.2 7 i ∧ r = if u0.2.2.1 59 y = a then u0.2.2.1 60 y else -1))))) := by
    intro N u o l c a hr
    unfold F_own B_own_0
    rw [if_neg (by rw [hr.sc (by decide)]; exact hj)]
    refine y_rB hr (by decide) (y_rB hr (by decide) (pp_bn (pp_m (d9 N u i o l c _ _ hr) (fun r1 w1 hw1 => ?_))))
    rw [hw1.1]
    rcases hw1.2 with ⟨z1, z2⟩ | ⟨j, z1, z2, z3, z4⟩
    · rw [if_pos z1]
      have hu57 : u.2.2.2 57 = u0.2.2.2 57 := hr.lrow (by decide)
      have hu58 : u.2.2.2 58 = u0.2.2.2 58 := hr.lrow (by decide)
      refine y_rB hr (by decide) (y_rB hr (by decide) (pp_bn (pp_m (y_named (G := G) (by rw [hr.sc (by decide)]; exact t4) (by omega)) (fun r2 w2 hw2 => ?_))))
      rw [hu57, hu58] at hw2
      rw [hw2.1]
      rcases hw2.2 with ⟨x1, x2⟩ | ⟨y, x1, x2, x3, x4⟩
      · rw [if_pos x1]
        exact pp_some ⟨rfl, Or.inr ⟨z2, Or.inl ⟨x2, rfl⟩⟩⟩
      · rw [if_neg (fun e => by rw [e, m1] at x2; omega)]
        refine pp_rd ?_
        rw [hr.row (by decide), n_of x2]
        refine pp_if (fun e => pp_rd ?_) (fun e => pp_some ⟨rfl, Or.inr ⟨z2, Or.inr ⟨y, x1, x3, x4, by rw [if_neg e]⟩⟩⟩)
        rw [hr.row (by decide), n_of x2]
        exact pp_some ⟨rfl, Or.inr ⟨z2, Or.inr ⟨y, x1, x3, x4, by rw [if_pos e]⟩⟩⟩
    · rw [if_neg (fun e => by rw [e, m1] at z2; omega)]
      exact pp_some ⟨rfl, Or.inl ⟨⟨j, z1, z3, z4⟩, rfl⟩⟩
  by_cases hL : ∃ j, j < K ∧ mL v0 (169 * q + (b + j)) 0 = cB v0 205 i ∧ mI v0 (169 * q + (b + j)) 1 = cA v0 206 i
  · obtain ⟨j, e1, e2, e3⟩ := hL
    have hu : ∀ y, y < K → mL v0 (169 * q + (b + y)) 0 = cB v0 205 i → mI v0 (169 * q + (b + y)) 1 = cA v0 206 i → y = j := fun y hy h1 h2 => d8 y j hy e1 (h1.trans e2.symm) (h2.trans e3.symm)
    have xi : (Int32.ofNat (160 * s + (F + j))).toInt = (160 * s + (F + j) : Nat) := ofN_i (by omega)
    have hbK : b + j < 160 := by omega
    refine ⟨169 * q + (b + j), Int32.ofNat (160 * s + (F + j)), fun _ => -1, by omega, ⟨fun N v l e hc => ?_, fun N u o l c hr => ?_, fun N u o l c a hr => ?_⟩, Or.inl ⟨?_, fun _ => rfl, (d7 j e1).1, ?_⟩⟩
    · refine pq_m (cls N v l e hc) (fun x w hw => ⟨?_, hw.1⟩)
      rcases hw.2 with ⟨y, y1, y2, y3, y4⟩ | ⟨y1, -⟩
      · rw [y2, hu y y1 y3 y4]
      · exact absurd ⟨e2, e3⟩ (y1 j e1)
    · refine pp_m (d9 N u i o l c _ _ hr) (fun r w hw => ⟨?_, hw.1⟩)
      rcases hw.2 with ⟨-, y2⟩ | ⟨y, y1, y2, y3, y4⟩
      · exact absurd ((nl j e1).mp ⟨e2, e3⟩) (y2 j e1)
      · have := (nl y y1).mpr ⟨y3, y4⟩
        have ey := hu y y1 this.1 this.2
        subst ey
        exact tI_eq.mpr (y2.trans xi.symm)
    · refine pp_m (own N u o l c a hr) (fun r w hw => ⟨?_, hw.1⟩)
      rcases hw.2 with ⟨-, y2⟩ | ⟨y1, -⟩
      · exact y2
      · exact absurd ((nl j e1).mp ⟨e2, e3⟩) (y1 j e1)
    · intro z
      rw [z, m1] at xi
      omega
    · rw [n_of xi]
      exact (d7 j e1).2.1
  · have hL' : ∀ j, j < K → ¬ (u0.2.2.2 25 (160 * s + (F + j)) = u0.2.2.2 6 i ∧ u0.2.2.2 26 (160 * s + (F + j)) = u0.2.2.2 7 i) := fun j hjK hm => hL ⟨j, hjK, (nl j hjK).mpr hm⟩
    have sl : ∀ N u o l c, RE u0 u i o l c → pp (F_slotOf N (u0.2.2.2 6 i) (u0.2.2.2 7 i) u) (fun r w => r = -1 ∧ w = u) := by
      intro N u o l c hr
      refine pp_m (d9 N u i o l c _ _ hr) (fun r w hw => ⟨?_, hw.1⟩)
      rcases hw.2 with ⟨y1, -⟩ | ⟨y, y1, y2, y3, y4⟩
      · exact y1
      · exact absurd ⟨y3, y4⟩ (hL' y y1)
    by_cases hG : ∃ x, x < T ∧ gl v0 (169 * q + x) ∧ mL v0 (169 * q + x) 0 = cB v0 205 i ∧ mI v0 (169 * q + x) 1 = cA v0 206 i
    · obtain ⟨x, e1, e2, e3, e4⟩ := hG
      obtain ⟨y, y1, y2, y3, y4, y5⟩ := g1 x e1 e2
      have hu : ∀ x', x' < T → gl v0 (169 * q + x') → mL v0 (169 * q + x') 0 = cB v0 205 i → mI v0 (169 * q + x') 1 = cA v0 206 i → x' = x := fun x' h1 h2 h3 h4 => g3 x' x h1 e1 h2 e2 (h3.trans e3.symm) (h4.trans e4.symm)
      have hy := (ng y3).mp ⟨e3, e4⟩
      have huy : ∀ y', y' < G → (u0.2.2.2 57 y' = u0.2.2.2 6 i ∧ u0.2.2.2 58 y' = u0.2.2.2 7 i) → u0.2.2.1 59 y' = mI v0 (169 * q + x) 2 ∧ u0.2.2.1 60 y' = mI v0 (169 * q + x) 4 := by
        intro y' hy' hm
        rcases Nat.lt_or_ge y' 8 with z | z
        · have := (n8 z).mpr hm
          exact absurd ⟨e4.trans this.2.symm, e3.trans this.1.symm⟩ (g4 x e1 e2 y' z)
        · obtain ⟨x', x1, x2, x3, x4, x5⟩ := g2 y' z hy'
          have h2 := (ng x3).mpr hm
          have ex := hu x' x1 x2 h2.1 h2.2
          subst ex
          exact ⟨x4, x5⟩
      have num := t12 x e1 e2
      have nn : ¬ mI v0 (169 * q + x) 4 = -1 := fun z => by rw [z, m1] at num; omega
      obtain ⟨x1, x2, x3⟩ := t11 x e1
      have KN : KN1 v0 u0 i (169 * q + x) (-1) (fun a => if mI v0 (169 * q + x) 2 = a then mI v0 (169 * q + x) 4 else -1) := by
        refine ⟨fun N v l e hc => ?_, fun N u o l c hr => sl N u o l c hr, fun N u o l c a hr => ?_⟩
        · refine pq_m (cls N v l e hc) (fun z w hw => ⟨?_, hw.1⟩)
          rcases hw.2 with ⟨y, w1, w2, w3, w4⟩ | ⟨-, ⟨y, w1, w2, w3, w4, w5⟩ | ⟨w1, -⟩⟩
          · exact absurd ⟨y, w1, w3, w4⟩ hL
          · rw [w2, hu y w1 w3 w4 w5]
          · exact absurd ⟨e3, e4⟩ (w1 x e1 e2)
        · refine pp_m (own N u o l c a hr) (fun r w hw => ⟨?_, hw.1⟩)
          rcases hw.2 with ⟨⟨j, w1, w2⟩, -⟩ | ⟨-, ⟨w1, -⟩ | ⟨y', w1, w2, w3, w4⟩⟩
          · exact absurd w2 (hL' j w1)
          · exact absurd hy (w1 y y2)
          · obtain ⟨u1, u2⟩ := huy y' w1 ⟨w2, w3⟩
            rw [w4, u1, u2]
      refine ⟨169 * q + x, -1, fun a => if mI v0 (169 * q + x) 2 = a then mI v0 (169 * q + x) 4 else -1, by omega, KN, ?_⟩
      have sorts : mI v0 (169 * q + x) 2 = 0 ∨ mI v0 (169 * q + x) 2 = 1 ∨ mI v0 (169 * q + x) 2 = 2 ∨ mI v0 (169 * q + x) 2 = 3 ∨ mI v0 (169 * q + x) 2 = 4 := by
        have : ¬ (4 : Int32).toInt < (mI v0 (169 * q + x) 2).toInt := fun z => e2 (Int32.lt_iff_toInt_lt.mpr z)
        rw [e4i] at this
        have a0 : (0 : Int32).toInt = 0 := by decide
        have a1 : (1 : Int32).toInt = 1 := by decide
        have a2 : (2 : Int32).toInt = 2 := by decide
        have a3 : (3 : Int32).toInt = 3 := by decide
        simp only [tI_eq, a0, a1, a2, a3, e4i]
        omega
      rcases sorts with z | z | z | z | z
      · obtain ⟨k, k1, k2, k3, k4, k5, k6, k7, k8, k9, k10, -⟩ := t15 x e1 z
        refine Or.inr (Or.inl ⟨rfl, z, ?_, fun a ha => ?_, ?_⟩)
        · dsimp only
          rw [if_pos z]; exact nn
        · dsimp only
          rw [if_neg (fun y => ha (y.symm.trans z))]
        · dsimp only
          rw [if_pos z, n_of (m24 t6 t7 k1 (by omega)).2.1]
          exact ⟨k3.symm, k6.symm, by rw [k5], k9, k10⟩
      · obtain ⟨k, r, k1, k2, k3, k4, k5, k6, k7, k8⟩ := t17 x e1 z
        obtain ⟨K', F', P', hR, -⟩ := t16 r k3 (Or.inl k5)
        have e38 : (24 * u0.1 56 + mI v0 (169 * q + x) 4).toNatClampNeg = 24 * s + k := n_of (m24 t6 t7 k1 (by omega)).1
        refine Or.inr (Or.inr (Or.inl ⟨rfl, z, ?_, fun a ha => ?_, 169 * q + r, by omega, fun N v i l e hc => ?_, ?_, ?_⟩))
        · dsimp only
          rw [if_pos z]; exact nn
        · dsimp only
          rw [if_neg (fun y => ha (y.symm.trans z))]
        · rw [t10]
          exact k2_name k4 (by rw [hc.pi q (by decide)]; exact t1) k3
        · dsimp only
          rw [if_pos z, e38]
          exact FI_of hR f1 t1 t2 (t11 r k3).1 t10 t6 t7 hj k6 hnm
        · dsimp only
          rw [if_pos z, e38, n_of k6]
          exact PA_of hR f1 t1 t2 (t11 r k3).1 t10 t6 t7 rfl
      · refine Or.inr (Or.inr (Or.inr (Or.inl ⟨rfl, z, ?_, fun a ha => ?_⟩)))
        · dsimp only
          rw [if_pos z]; exact nn
        · dsimp only
          rw [if_neg (fun y => ha (y.symm.trans z))]
      · refine Or.inr (Or.inr (Or.inr (Or.inr (Or.inl ⟨rfl, z, ?_, fun a ha => ?_⟩))))
        · dsimp only
          rw [if_pos z]; exact nn
        · dsimp only
          rw [if_neg (fun y => ha (y.symm.trans z))]
      · obtain ⟨K', F', P', hR, -⟩ := t16 x e1 (Or.inr z)
        have hR' := hR
        obtain ⟨a1, a2, a3, a4, a5, a6, a7, a8, a9, a10, a11, a12, a13, a14, a15, -⟩ := hR'
        have hk : (mI v0 (169 * q + x) 4).toInt = ((mI v0 (169 * q + x) 4).toInt.toNat : Nat) := by omega
        have eb : (24 * u0.1 56 + 8 + mI v0 (169 * q + x) 4).toNatClampNeg = bk v0 (169 * q + x) s := by
          rw [n_of (m24 t6 t7 hk (by omega)).2.2]
          unfold bk
          rw [if_neg (by rw [z]; decide)]
          rfl
        refine Or.inr (Or.inr (Or.inr (Or.inr (Or.inr (Or.inl ⟨rfl, z, ?_, fun a ha => ?_, ?_, (a15 z).1, ?_⟩)))))
        · dsimp only
          rw [if_pos z]; exact nn
        · dsimp only
          rw [if_neg (fun y => ha (y.symm.trans z))]
        · dsimp only
          rw [if_pos z, eb]
          exact PA_of hR f1 t1 t2 x1 t10 t6 t7 rfl
        · dsimp only
          rw [if_pos z, eb]
          exact (a15 z).2
    · have hG' : ∀ y, y < G → 8 ≤ y → ¬ (u0.2.2.2 57 y = u0.2.2.2 6 i ∧ u0.2.2.2 58 y = u0.2.2.2 7 i) := by
        intro y hy hy8 hm
        obtain ⟨x', x1, x2, x3, x4, x5⟩ := g2 y hy8 hy
        have h2 := (ng x3).mpr hm
        exact hG ⟨x', x1, x2, h2.1, h2.2⟩
      by_cases h8 : ∃ k, k < 8 ∧ cA v0 206 i = 0 ∧ mL v0 (169 * q + (160 + k)) 0 = cB v0 205 i
      · obtain ⟨k, k1, k2, k3⟩ := h8
        obtain ⟨p1, p2, p3, p4, p5⟩ := f5 k k1
        have hu : ∀ k', k' < 8 → mL v0 (169 * q + (160 + k')) 0 = cB v0 205 i → k' = k := fun k' h1 h2 => f6 k' k h1 k1 (h2.trans k3.symm)
        have hy := (n8 k1).mp ⟨k3, k2.symm⟩
        have ki : (Int32.ofNat k).toInt = k := ofN_i (by omega)
        refine ⟨169 * q + (160 + k), -1, fun a => if (5 : Int32) = a then Int32.ofNat k else -1, by omega, ⟨fun N v l e hc => ?_, fun N u o l c hr => sl N u o l c hr, fun N u o l c a hr => ?_⟩, Or.inr (Or.inr (Or.inr (Or.inr (Or.inr (Or.inr (Or.inl ⟨rfl, p1, ?_, fun a ha => ?_, ?_⟩))))))⟩
        · refine pq_m (cls N v l e hc) (fun z w hw => ⟨?_, hw.1⟩)
          rcases hw.2 with ⟨y, w1, w2, w3, w4⟩ | ⟨-, ⟨y, w1, w2, w3, w4, w5⟩ | ⟨-, ⟨k', w1, w2, w3, w4⟩ | ⟨w1, -⟩⟩⟩
          · exact absurd ⟨y, w1, w3, w4⟩ hL
          · exact absurd ⟨y, w1, w3, w4, w5⟩ hG
          · rw [w4, hu k' w1 w3]
          · rcases w1 with w1 | w1
            · exact absurd k2 w1
            · exact absurd k3 (w1 k k1)
        · refine pp_m (own N u o l c a hr) (fun r w hw => ⟨?_, hw.1⟩)
          rcases hw.2 with ⟨⟨j, w1, w2⟩, -⟩ | ⟨-, ⟨w1, -⟩ | ⟨y', w1, w2, w3, w4⟩⟩
          · exact absurd w2 (hL' j w1)
          · exact absurd hy (w1 k (by omega))
          · rcases Nat.lt_or_ge y' 8 with z | z
            · have h2 := (n8 z).mpr ⟨w2, w3⟩
              have ek := hu y' z h2.1
              subst ek
              rw [w4, p3, p4]
            · exact absurd ⟨w2, w3⟩ (hG' y' w1 z)
        · dsimp only
          rw [if_pos rfl]
          intro z
          rw [z, m1] at ki
          omega
        · dsimp only
          rw [if_neg (fun y => ha y.symm)]
        · dsimp only
          rw [if_pos rfl]
          exact p5
      · refine ⟨169 * q + 168, -1, fun _ => -1, by omega, ⟨fun N v l e hc => ?_, fun N u o l c hr => sl N u o l c hr, fun N u o l c a hr => ?_⟩, Or.inr (Or.inr (Or.inr (Or.inr (Or.inr (Or.inr (Or.inr ⟨rfl, f1, fun _ => rfl⟩))))))⟩
        · refine pq_m (cls N v l e hc) (fun z w hw => ⟨?_, hw.1⟩)
          rcases hw.2 with ⟨y, w1, w2, w3, w4⟩ | ⟨-, ⟨y, w1, w2, w3, w4, w5⟩ | ⟨-, ⟨k', w1, w2, w3, w4⟩ | ⟨-, w2⟩⟩⟩
          · exact absurd ⟨y, w1, w3, w4⟩ hL
          · exact absurd ⟨y, w1, w3, w4, w5⟩ hG
          · exact absurd ⟨k', w1, w2, w3⟩ h8
          · exact w2
        · refine pp_m (own N u o l c a hr) (fun r w hw => ⟨?_, hw.1⟩)
          rcases hw.2 with ⟨-, w2⟩ | ⟨-, ⟨-, w2⟩ | ⟨y', w1, w2, w3, w4⟩⟩
          · exact w2
          · exact w2
          · rcases Nat.lt_or_ge y' 8 with z | z
            · have h2 := (n8 z).mpr ⟨w2, w3⟩
              exact absurd ⟨y', z, h2.2.symm, h2.1⟩ h8
            · exact absurd ⟨w2, w3⟩ (hG' y' w1 z)
theorem OW_of (h : TR v0 u0 q s T G) (hO : OWN v0 u0 q s T) : OWj v0 u0 := by
  obtain ⟨t1, t2, t3, t4, t5, t5', t6, t7, t8, t9, t10, t11, t12, t13, t14, t15, t16, t17⟩ := h
  rcases hO with ⟨o1, o2⟩ | ⟨r, K, F, P, o1, o2, o3, o4, o5, o6, o7, o8, o9, o10, o11⟩
  · refine ⟨169 * q + 168, fun N v i l e _ => by rw [t9]; exact k2_noname o1, ⟨fun z => ?_, fun z => ?_⟩, fun z => ?_⟩
    · rw [t14.1] at z; exact absurd z (by decide)
    · rw [z] at o2; exact absurd o2 (by decide)
    · rw [t14.1] at z; exact absurd z (by decide)
  · refine ⟨169 * q + r, fun N v i l e hc => by rw [t9]; exact k2_name o2 (by rw [hc.pi q (by decide)]; exact t1) o1, o9, fun z => ?_⟩
    have := o4.2.2.2.2.2.2.2.2.2.2.2.2.2.2.1 z
    rw [n_of o10]
    exact this
end Tb2
