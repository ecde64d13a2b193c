/-! The second pass: what a NAME means to both, what E's leave; numbers. -/
def KD (k : Int32) : Prop := k = 0 ∨ k = 1 ∨ k = 2 ∨ k = 3 ∨ k = 4
def B01 (k : Int32) : Prop := k = 0 ∨ k = 1
/-- the class's name m and the reference's slot x are one parameter or local -/
def SL (v0 : CSt) (u0 : RSt) (m x : Nat) : Prop := mI v0 m 5 = u0.2.2.1 20 x ∧ mI v0 m 8 = u0.2.2.1 22 x ∧ KD (mI v0 m 5) ∧ B01 (mI v0 m 8)
def VA (v0 : CSt) (u0 : RSt) (m x : Nat) : Prop := mI v0 m 5 = u0.2.2.1 10 x ∧ mI v0 m 8 = u0.2.2.1 13 x ∧ (mI v0 m 6 = 2 ↔ u0.2.2.1 12 x = 2) ∧ KD (mI v0 m 5) ∧ B01 (mI v0 m 8)
/-- parameters of a block or function: the class's name m, the reference's number p -/
def PA (v0 : CSt) (u0 : RSt) (m p : Nat) : Prop := mI v0 m 11 = u0.2.2.1 30 p ∧ 0 ≤ (mI v0 m 11).toInt ∧ (mI v0 m 11).toInt ≤ 6 ∧ ∀ k : Nat, k ≤ 1500 → ∃ r, (∀ N v i l e, CE v0 v i l e → pq (F_X6_local N (cR v0 3) m (Int32.ofNat k) v) (fun x w => x = r ∧ w = v)) ∧ (mI v0 r 2 = 5 ↔ (k : Int) < (mI v0 m 11).toInt) ∧ ((k : Int) < (mI v0 m 11).toInt → KD (mI v0 r 5) ∧ mI v0 r 5 = u0.2.2.1 20 (160 * u0.1 56 + u0.2.2.1 28 p + Int32.ofNat k).toNatClampNeg)
/-- the parameter or local behind an instance: the class's name mb of its block, the reference's number b of it -/
def FI (v0 : CSt) (u0 : RSt) (n mb : Nat) (b : Int32) : Prop := ∀ j, j < n → tyF v0 j = 128 → ∃ (m : Nat) (x : Int32), (∀ N v l e, CE v0 v j l e → pq (F_X6_localCalled N (cR v0 3) mb (cB v0 205 j) (cA v0 206 j) v) (fun r w => r = m ∧ w = v)) ∧ (∀ N ro l1 l2 u o l c (Q : Int32 → RSt → Prop), RE u0 u j o l c → pp (B_inner_198 N ro l1 l2 x u) Q → pp (LP_inner_102 N ro N (l1, l2, -1, b, 0, u)) Q) ∧ ((x = -1 ∧ mI v0 m 2 = 8) ∨ (¬ x = -1 ∧ ¬ mI v0 m 2 = 8 ∧ SL v0 u0 m x.toNatClampNeg))
/-- an instance: the class's name m, the reference's number k -/
def IS (v0 : CSt) (u0 : RSt) (n m : Nat) (k : Int32) : Prop := ∃ mb, mb < 338 ∧ (∀ N v i l e, CE v0 v i l e → pq (F_X6_name N (cR v0 3) (mI v0 m 14) v) (fun x w => x = mb ∧ w = v)) ∧ FI v0 u0 n mb (u0.2.2.1 38 (24 * u0.1 56 + k).toNatClampNeg) ∧ PA v0 u0 mb (u0.2.2.1 38 (24 * u0.1 56 + k).toNatClampNeg).toNatClampNeg
/-- one of the eight: the class's name m, the reference's number k -/
def EI (v0 : CSt) (m : Nat) (k : Int32) : Prop := mI v0 m 11 = (if k = 0 ∨ 4 < k then 1 else 2) ∧ (mI v0 m 4 = 8 ↔ k = 3) ∧ (mI v0 m 4 = 9 ↔ k = 4) ∧ (mI v0 m 4 = 12 ↔ k = 6) ∧ (mI v0 m 4 = 13 ↔ k = 7) ∧ 0 ≤ k.toInt ∧ k.toInt ≤ 7
def MN (v0 : CSt) (u0 : RSt) (n m : Nat) (s : Int32) (g : Int32 → Int32) : Prop :=
  (¬ s = -1 ∧ (∀ a, g a = -1) ∧ (mI v0 m 2 = 5 ∨ mI v0 m 2 = 6) ∧ SL v0 u0 m s.toNatClampNeg) ∨
  (s = -1 ∧ mI v0 m 2 = 0 ∧ ¬ g 0 = -1 ∧ (∀ a, ¬ a = 0 → g a = -1) ∧ VA v0 u0 m (160 * u0.1 56 + g 0).toNatClampNeg) ∨
  (s = -1 ∧ mI v0 m 2 = 1 ∧ ¬ g 1 = -1 ∧ (∀ a, ¬ a = 1 → g a = -1) ∧ IS v0 u0 n m (g 1)) ∨
  (s = -1 ∧ mI v0 m 2 = 2 ∧ ¬ g 2 = -1 ∧ (∀ a, ¬ a = 2 → g a = -1)) ∨
  (s = -1 ∧ mI v0 m 2 = 3 ∧ ¬ g 3 = -1 ∧ (∀ a, ¬ a = 3 → g a = -1)) ∨
  (s = -1 ∧ mI v0 m 2 = 4 ∧ ¬ g 4 = -1 ∧ (∀ a, ¬ a = 4 → g a = -1) ∧ PA v0 u0 m (24 * u0.1 56 + 8 + g 4).toNatClampNeg ∧ KD (mI v0 m 5) ∧ mI v0 m 5 = u0.2.2.1 33 (24 * u0.1 56 + 8 + g 4).toNatClampNeg) ∨
  (s = -1 ∧ mI v0 m 2 = 7 ∧ ¬ g 5 = -1 ∧ (∀ a, ¬ a = 5 → g a = -1) ∧ EI v0 m (g 5)) ∨
  (s = -1 ∧ mI v0 m 2 = 8 ∧ ∀ a, g a = -1)
def KN1 (v0 : CSt) (u0 : RSt) (i m : Nat) (s : Int32) (g : Int32 → Int32) : Prop := (∀ N v l e, CE v0 v i l e → pq (F_X8_known N v) (fun r w => r = m ∧ w = v)) ∧ (∀ N u o l c, RE u0 u i o l c → pp (F_slotOf N (u0.2.2.2 6 i) (u0.2.2.2 7 i) u) (fun r w => r = s ∧ w = u)) ∧ (∀ N u o l c a, RE u0 u i o l c → pp (F_own N a u) (fun r w => r = g a ∧ w = u))
/-- all that E's and Stats want of the tables and tokens of both -/
def EV2 (v0 : CSt) (u0 : RSt) (n : Nat) : Prop := TB v0 n ∧ RT (tyF v0) (u0.2.2.1 2) n ∧ TKs v0 u0 n ∧ cA v0 204 n = u0.2.2.1 3 n ∧ ¬ u0.1 69 = 0 ∧ cR v0 2 = cR v0 3 ∧ (∀ i, i < n → tyF v0 i = 128 → ∃ m s g, m < 338 ∧ KN1 v0 u0 i m s g ∧ MN v0 u0 n m s g)
/-- the stack of operators that wait: below its height nothing changes -/
def sfe (e e' : E5) : Prop := e'.1 = e.1 ∧ ∀ k : Nat, (k : Int) < e.1.toInt → e'.2.2.2.1 k = e.2.2.2.1 k ∧ e'.2.2.2.2 k = e.2.2.2.2 k
/-- whether the E is a constant, and which -/
def cne (e : E5) (c : R5) : Prop := (e.2.1 = 0 ∧ c.1 = 0) ∨ (e.2.1 = 1 ∧ (c.1 = 1 ∨ c.1 = 2) ∧ e.2.2.1 = c.2.1)
def EPq (v0 : CSt) (u0 : RSt) (j o l : Nat) (e : E5) : Int32 → CSt → Int32 → RSt → Prop := fun b w r x => b = r ∧ KD b ∧ ∃ e' c', CE v0 w j l e' ∧ RE u0 x j o l c' ∧ sfe e e' ∧ cne e' c'
def EOq (v0 : CSt) (u0 : RSt) (i j o l : Nat) (e : E5) : Int32 → CSt → Int32 → RSt → Prop := fun b w r x => b = r ∧ KD b ∧ ∃ e' c', CE v0 w j l e' ∧ RE u0 x j o l c' ∧ sfe e e' ∧ cne e' c' ∧ ((tyF v0 i = 129 ∨ tyF v0 i = 130) → c'.1 = 1)
section Num2
variable {v0 v w : CSt} {u0 u : RSt} {i j o l n N : Nat} {e : E5} {c : R5} {β γ : Type} {A : β → CSt → γ → RSt → Prop} {Y : Option (γ × RSt)}
theorem sfe_rf : sfe e e := ⟨rfl, fun _ _ => ⟨rfl, rfl⟩⟩
theorem sfe_tr {e1 e2 : E5} (h : sfe e e1) (h2 : sfe e1 e2) : sfe e e2 := ⟨h2.1.trans h.1, fun k hk => by
  obtain ⟨a1, a2⟩ := h.2 k hk
  obtain ⟨b1, b2⟩ := h2.2 k (by rw [h.1]; exact hk)
  exact ⟨b1.trans a1, b2.trans a2⟩⟩
theorem sfe_17 {a : Int32} : sfe e (e.1, a, e.2.2) := ⟨rfl, fun _ _ => ⟨rfl, rfl⟩⟩
theorem sfe_L {a : Int64} : sfe e (e.1, e.2.1, a, e.2.2.2) := ⟨rfl, fun _ _ => ⟨rfl, rfl⟩⟩
theorem cne_0 : cne (e.1, 0, e.2.2) (0, c.2) := Or.inl ⟨rfl, rfl⟩
theorem EOq.ep {b r : Int32} {x : RSt} (h : EOq v0 u0 i j o l e b w r x) : EPq v0 u0 j o l e b w r x := by
  obtain ⟨h1, h2, e', c', h3, h4, h5, h6, h7⟩ := h
  exact ⟨h1, h2, e', c', h3, h4, h5, h6⟩
theorem EV2.pl (h : EV2 v0 u0 n) (hi : i ≤ n) : cA v0 204 i = u0.2.2.1 3 i := by
  rcases Nat.lt_or_eq_of_le hi with z | z
  · exact (h.2.2.1 i z).1
  · rw [z]; exact h.2.2.2.1
theorem EV2.lt (h : EV2 v0 u0 n) (hi : i ≤ n) (ht : ¬ isEnd (tyF v0 i)) : i < n := h.2.1.lt hi ht
theorem j_takeNumber {k : Int64 → CSt → Option (Sum Nat β × CSt)} (hV : EV2 v0 u0 n) (h : CE v0 v i l e) (hi : i < n) (k0 : cA v0 206 i &&& 2 = 0 → ∀ w, CE v0 w (i + 1) l e → jx (k (cB v0 205 i) w) Y A) (k1 : ¬ cA v0 206 i &&& 2 = 0 → pp Y (fun _ x => ¬ x.1 67 = 0 ∧ x.1 68 = cA v0 204 i)) : jx (bt (F_X9_takeNumber N v) k) Y A := by
  refine pq_bt ?_
  unfold F_X9_takeNumber B_X9_takeNumber_0
  refine pq_rd ?_
  rw [h.row (by decide), h.nat]
  refine pq_if (fun z => ?_) (fun z => ?_)
  · unfold B_X9_takeNumber_28
    refine pq_rd ?_
    rw [h.val, h.nat]
    refine k2_next hV.1 h hi (fun w hw => pq_some ⟨(fun _ q => nomatch q), fun b q => ?_⟩)
    cases q
    exact k0 z w hw
  · refine pq_rd ?_
    rw [h.row (by decide), h.nat]
    refine pq_refuse ⟨fun x q => ?_, fun b q => nomatch q⟩
    cases q
    exact pp_m (k1 z) (fun _ _ q => Or.inl ⟨rfl, q.1, q.2⟩)
theorem j_takeBounded {a b : Int64} {k : Int64 → CSt → Option (Sum Nat β × CSt)} (hV : EV2 v0 u0 n) (h : CE v0 v i l e) (hi : i < n) (k0 : (cA v0 206 i &&& 2 = 0 ∧ ¬ cB v0 205 i < a ∧ cB v0 205 i ≤ b) → ∀ w, CE v0 w (i + 1) l e → jx (k (cB v0 205 i) w) Y A) (k1 : ¬ (cA v0 206 i &&& 2 = 0 ∧ ¬ cB v0 205 i < a ∧ cB v0 205 i ≤ b) → pp Y (fun _ x => ¬ x.1 67 = 0 ∧ x.1 68 = cA v0 204 i)) : jx (bt (F_X9_takeBounded N a b v) k) Y A := by
  refine pq_bt ?_
  have no : ¬ (cA v0 206 i &&& 2 = 0 ∧ ¬ cB v0 205 i < a ∧ cB v0 205 i ≤ b) → pq (B_X9_takeBounded_39 N (cB v0 205 i) v) (fun y w => (∀ x, y = .inl x → pp Y (fun r z => OFx A (.inl x) w r z)) ∧ (∀ b, y = .inr b → pq (k b w) (fun y w => pp Y (fun r z => OFx A y w r z)))) := by
    intro z
    unfold B_X9_takeBounded_39
    refine pq_rd ?_
    rw [h.row (by decide), h.nat]
    refine pq_refuse ⟨fun x q => ?_, fun b q => nomatch q⟩
    cases q
    exact pp_m (k1 z) (fun _ _ q => Or.inl ⟨rfl, q.1, q.2⟩)
  unfold F_X9_takeBounded B_X9_takeBounded_0
  refine pq_rd (pq_rd ?_)
  rw [h.row (by decide), h.val, h.nat]
  refine pq_if (fun z => pq_if (fun z2 => no (fun q => q.2.1 z2)) (fun z2 => pq_if (fun z3 => ?_) (fun z3 => no (fun q => z3 q.2.2)))) (fun z => no (fun q => z q.1))
  unfold B_X9_takeBounded_53
  refine k2_next hV.1 h hi (fun w hw => pq_some ⟨(fun _ q => nomatch q), fun b q => ?_⟩)
  cases q
  exact k0 ⟨z, z2, z3⟩ w hw
/-- NUMBER or CHARACTER -/
theorem j_number {ro : Nat → Int32 → Int32 → RSt → Option (Int32 × RSt)} (hV : EV2 v0 u0 n) (h : CE v0 v i l e) (h' : RE u0 u i o l c) (hi : i < n) (ht : tyF v0 i = 129 ∨ tyF v0 i = 130) : jx (F_X8_number N (cA v0 204 i) v) (B_operand_130 N ro (u0.2.2.1 2 i) u) (EOq v0 u0 i (i + 1) o l e) := by
  obtain ⟨hp, hk⟩ := hV.2.2.1 i hi
  obtain ⟨hs, hn, hc, -⟩ := hk
  have hn2 := hV.2.1.2.2
  have s3 : u0.2.2.1 2 i = 3 ↔ ¬ cA v0 206 i &&& 2 = 0 := by
    rcases ht with z | z
    · have e23 : u0.2.2.1 2 i = 2 ∨ u0.2.2.1 2 i = 3 := ((show ∀ p ∈ prs, (p.1 = 129 → p.2 = 2 ∨ p.2 = 3) by decide +kernel) (tyF v0 i, u0.2.2.1 2 i) hs) z
      obtain ⟨a1, a2, a3⟩ := hn z
      constructor
      · intro q r
        have := a1.mp r
        rw [q] at this
        exact absurd this (by decide)
      · intro q
        rcases e23 with r | r
        · exact absurd (a1.mpr r) q
        · exact r
    · obtain ⟨a1, a2, a3, -⟩ := hc z
      have e4 : u0.2.2.1 2 i = 4 := ((show ∀ p ∈ prs, (p.1 = 130 → p.2 = 4) by decide +kernel) (tyF v0 i, u0.2.2.1 2 i) hs) z
      constructor
      · intro q
        rw [e4] at q
        exact absurd q (by decide)
      · intro q
        rw [a2] at q
        exact absurd (by decide) q
  have wd : cA v0 206 i &&& 1 = 0 ↔ u0.2.2.1 5 i = 0 := by
    rcases ht with z | z
    · exact (hn z).2.1
    · obtain ⟨a1, a2, a3, -⟩ := hc z
      rw [a2, a3]
      decide
  have vl : cA v0 206 i &&& 2 = 0 → cB v0 205 i = u0.2.2.2 4 i := by
    intro q
    rcases ht with z | z
    · exact ((hn z).2.2 ((hn z).1.mp q)).1
    · exact (hc z).1
  have ref0 : ¬ u0.2.2.1 2 i = 3 → pp (B_operand_130 N ro (u0.2.2.1 2 i) u) (fun r x => r = (if u0.2.2.1 5 i = 0 then 3 else 4) ∧ RE u0 x (i + 1) o l (1, u0.2.2.2 4 i, c.2.2)) := by
    intro z
    unfold B_operand_130
    rw [if_neg z]
    unfold B_operand_141
    refine y_rA h' (by decide) (y_ok rfl (y_rA h' (by decide) (y_cost h' (fun w2 h2 => y_rB h2 (by decide) (y_push h2 (fun w3 h3 => ?_))))))
    refine pp_pu (y_rB h3.x78 (by decide) (pp_pu ?_))
    have h4 := (h3.x78 (a := 1)).x79 (a := u0.2.2.2 4 i)
    refine y_adv h4 (by omega) (fun w5 h5 => ?_)
    have e6 : (w5.1 65 - 1).toNatClampNeg = i := by
      have := h5.2.2.1
      have e1 : (1 : Int32).toInt = 1 := by decide
      show (w5.1 65 - 1).toInt.toNat = i
      rw [tI_sub (by omega) (by omega), e1, this]
      omega
    refine pp_rd ?_
    rw [h5.row (by decide), e6]
    refine pp_if (fun q => pp_some ⟨by rw [if_pos q], h5⟩) (fun q => pp_some ⟨by rw [if_neg q], h5⟩)
  have ref1 : u0.2.2.1 2 i = 3 → pp (B_operand_130 N ro (u0.2.2.1 2 i) u) (fun _ x => ¬ x.1 67 = 0 ∧ x.1 68 = cA v0 204 i) := by
    intro z
    unfold B_operand_130
    rw [if_pos z]
    unfold B_operand_141
    refine y_rA h' (by decide) ?_
    rw [← hp]
    exact y_bad hV.2.2.2.2.1 h' (by decide) (by decide) (fun _ _ => by repeat' (first | exact KP_some kp_rf | with_reducible refine KP_bn ?_ (fun _ _ => ?_) | with_reducible refine KP_if ?_ ?_ | with_reducible refine KP_rd (fun _ => ?_) | with_reducible refine KP_zr ?_ | (with_reducible refine KP_pu2 ?_ ?_; first | exact ks_sI (by decide) kp_rf | exact ks_sL kp_rf | exact ks_sA (by decide) kp_rf | exact ks_sB (by decide) kp_rf) | (with_reducible refine KP_wr2 ?_ ?_; first | exact ks_sA (by decide) kp_rf | exact ks_sB (by decide) kp_rf) | with_reducible exact h_ro _ _ _ _ | with_reducible exact sk_F_is | with_reducible exact sk_F_take | with_reducible exact sk_F_emit | with_reducible exact sk_F_wrong | with_reducible exact sk_F_cost | with_reducible exact sk_F_stuck | with_reducible exact sk_F_ends | with_reducible exact sk_F_begins | with_reducible exact sk_F_opens | with_reducible exact sk_F_has | with_reducible exact sk_F_isNumber | with_reducible exact sk_F_isNext | with_reducible exact sk_F_push | with_reducible exact sk_F_lead | with_reducible exact sk_F_here | with_reducible exact sk_F_kind | with_reducible exact sk_F_isKind | with_reducible exact sk_F_own | with_reducible exact sk_F_constant | with_reducible exact sk_F_bounded | with_reducible exact sk_F_joined | with_reducible exact sk_F_strength | with_reducible exact sk_F_leadAll | with_reducible exact sk_F_loop | with_reducible exact sk_F_label | with_reducible exact sk_F_leaves | with_reducible exact sk_F_telling | with_reducible exact sk_F_local | with_reducible exact sk_F_addSlot | with_reducible exact sk_F_addVariable | with_reducible exact sk_F_isTooWide | with_reducible exact sk_F_named | with_reducible exact sk_F_slotOf | with_reducible exact sk_F_bad | with_reducible exact sk_G_expression | with_reducible exact sk_G_spot | with_reducible exact sk_G_body | with_reducible exact sk_G_stat))
  have go : ∀ s0 : Int32, s0 = (if u0.2.2.1 5 i = 0 then 3 else 4) → jx (B_X8_number_15 N (cA v0 204 i) s0 v) (B_operand_130 N ro (u0.2.2.1 2 i) u) (EOq v0 u0 i (i + 1) o l e) := by
    intro s0 hs0
    unfold B_X8_number_15
    refine j_takeNumber hV h hi (fun z w hw => ?_) (fun z => ref1 (s3.mpr z))
    refine pq_pc (pq_pc (pq_ok (fun _ => ?_)))
    refine k2_const (hw.uL.x17) (fun w2 h2 => pq_some ?_)
    refine pp_m (ref0 (fun q => (s3.mp q) z)) (fun r x hx => Or.inr ⟨s0, rfl, by rw [hs0, hx.1], ?_, _, _, h2, hx.2, ?_, ?_, fun _ => rfl⟩)
    · rw [hs0]
      split
      · exact Or.inr (Or.inr (Or.inr (Or.inl rfl)))
      · exact Or.inr (Or.inr (Or.inr (Or.inr rfl)))
    · exact sfe_tr sfe_L sfe_17
    · exact Or.inr ⟨rfl, Or.inl rfl, vl z⟩
  unfold F_X8_number B_X8_number_0
  refine k2_wide h ?_
  by_cases q : cA v0 206 i &&& 1 = 0
  · rw [if_pos q, if_pos rfl]
    exact go 3 (by rw [if_pos (wd.mp q)])
  · rw [if_neg q, if_neg (by decide)]
    exact go 4 (by rw [if_neg (fun r => q (wd.mpr r))])
/-- too wide -/
theorem tw_same {b k : Int32} (hb : KD b) (hk : KD k) (h : CE v0 v i l e) (h' : RE u0 u i o l c) (hc : cne e c) : ∃ r : Int32, B01 r ∧ (∀ {β : Type} {Q : β → CSt → Prop} {f : Int32 → CSt → Option (β × CSt)}, pq (f r v) Q → pq (bc (F_X8_isTooWide N b k v) f) Q) ∧ (∀ {β : Type} {Q : β → RSt → Prop} {f : Int32 → RSt → Option (β × RSt)}, pp (f r u) Q → pp (bn (F_isTooWide N b k u) f) Q) := by
  have hro : n_room b k = (if b = k then 1 else if b = 0 ∧ k = 2 ∨ (b = 1 ∨ b = 2) ∧ k < 3 ∨ b = 3 ∧ ¬ k = 4 ∨ b = 4 then 0 else 1) := by
    rcases hb with rfl | rfl | rfl | rfl | rfl <;> rcases hk with rfl | rfl | rfl | rfl | rfl <;> decide
  have h25 : ∀ {β : Type} {Q : β → RSt → Prop} {f : Int32 → RSt → Option (β × RSt)}, ¬ b = k → pp (f (if n_room b k = 0 then 1 else 0) u) Q → pp (B_isTooWide_25 N b k u) (fun r w => pp (f r w) Q) := by
    intro β Q f hn kk
    unfold B_isTooWide_25
    rcases hb with rfl | rfl | rfl | rfl | rfl <;> rcases hk with rfl | rfl | rfl | rfl | rfl <;> first | exact absurd rfl hn | exact pp_some kk
  have e17 : cI v 17 = e.2.1 := by rw [← h.2.2.2]; rfl
  have eL : cL v 0 = e.2.2.1 := by rw [← h.2.2.2]; rfl
  have e78 : u.1 78 = c.1 := by rw [← h'.2.2.2.2.2]; rfl
  have e79 : u.2.1 79 = c.2.1 := by rw [← h'.2.2.2.2.2]; rfl
  have hf : n_fits k (cL v 0) = 0 ↔ ¬ n_cut k (cL v 0) = cL v 0 := by
    unfold n_fits
    by_cases q : n_cut k (cL v 0) = cL v 0
    · rw [if_pos q]; exact ⟨fun z => absurd z (by decide), fun z => absurd q z⟩
    · rw [if_neg q]; exact ⟨fun _ => q, fun _ => rfl⟩
  refine ⟨if b = k then 0 else if e.2.1 = 0 then (if n_room b k = 0 then 1 else 0) else if n_cut k (cL v 0) = cL v 0 then 0 else (if n_room b k = 0 then 1 else 0), ?_, ?_, ?_⟩
  · split
    · exact Or.inl rfl
    · split
      · split
        · exact Or.inr rfl
        · exact Or.inl rfl
      · split
        · exact Or.inl rfl
        · split
          · exact Or.inr rfl
          · exact Or.inl rfl
  · intro β Q f kk
    refine pq_bc ?_
    unfold F_X8_isTooWide B_X8_isTooWide_0 B_X8_isTooWide_26
    by_cases q : b = k
    · rw [if_pos q] at kk
      rw [if_neg (by rw [hro, if_pos q]; decide)]
      exact pq_some kk
    · rw [if_neg q] at kk
      refine pq_if (fun z => ?_) (fun z => ?_)
      · rw [if_pos z] at kk
        refine pq_if (fun z2 => ?_) (fun z2 => pq_if (fun z3 => ?_) (fun z3 => ?_))
        · rw [if_pos (e17.symm.trans z2)] at kk
          exact pq_some kk
        · rw [if_neg (fun r => z2 (e17.trans r)), if_neg (hf.mp z3)] at kk
          exact pq_some kk
        · rw [if_neg (fun r => z2 (e17.trans r)), if_pos (Classical.not_not.mp (fun r => z3 (hf.mpr r)))] at kk
          exact pq_some kk
      · rw [if_neg z] at kk
        have : (if e.2.1 = 0 then (0 : Int32) else if n_cut k (cL v 0) = cL v 0 then 0 else 0) = 0 := by
          split
          · rfl
          · split <;> rfl
        rw [this] at kk
        exact pq_some kk
  · intro β Q f kk
    refine pp_bn ?_
    unfold F_isTooWide B_isTooWide_0
    by_cases q : b = k
    · rw [if_pos q] at kk ⊢
      exact pp_some kk
    · rw [if_neg q] at kk ⊢
      rcases hc with ⟨a1, a2⟩ | ⟨a1, a2, a3⟩
      · rw [if_pos a1] at kk
        rw [if_pos (by rw [e78, a2]; decide)]
        exact h25 q kk
      · rw [if_neg (by rw [a1]; decide)] at kk
        rw [if_neg (by rw [e78]; rcases a2 with r | r <;> (rw [r]; decide))]
        have hr : r_has k (u.2.1 79) = 0 ↔ ¬ n_cut k (cL v 0) = cL v 0 := by
          unfold r_has
          rw [e79, ← a3, ← eL, q_cut]
          by_cases q2 : n_cut k (cL v 0) = cL v 0
          · rw [if_pos q2]; exact ⟨fun z => absurd z (by decide), fun z => absurd q2 z⟩
          · rw [if_neg q2]; exact ⟨fun _ => q2, fun _ => rfl⟩
        refine pp_if (fun z => ?_) (fun z => ?_)
        · rw [if_neg (hr.mp z)] at kk
          exact h25 q kk
        · rw [if_pos (Classical.not_not.mp (fun r => z (hr.mpr r)))] at kk
          exact pp_some kk
end Num2
