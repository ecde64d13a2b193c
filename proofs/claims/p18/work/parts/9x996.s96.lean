/-! find: class and reference answer alike, from the tables of what is installed. -/
def okC (L : List Int32) : Prop := ∀ c ∈ L, 0 < c.toInt ∧ c.toInt < 256
theorem okC_snoc {L : List Int32} {c : Int32} (h : okC (L ++ [c])) : okC L ∧ 0 < c.toInt ∧ c.toInt < 256 := ⟨fun x hx => h x (List.mem_append_left _ hx), h c (List.mem_append_right _ (List.mem_singleton.mpr rfl))⟩
theorem vN_ltC : ∀ (n : Nat) (L : List Int32), L.length = n → okC L → vN L < 256 ^ n := by
  intro n
  induction n with
  | zero =>
    intro L hl _
    have : L = [] := List.eq_nil_of_length_eq_zero hl
    subst this
    decide
  | succ n ih =>
    intro L hl hb
    rcases List.eq_nil_or_concat L with e | ⟨M, c, e⟩
    · rw [e] at hl; cases hl
    · rw [List.concat_eq_append] at e
      subst e
      obtain ⟨b1, b2, b3⟩ := okC_snoc hb
      rw [List.length_append] at hl
      have hm : M.length = n := by simpa using hl
      have i1 := ih M hm b1
      rw [vN_snoc, Nat.pow_succ]
      generalize 256 ^ n = z at *
      omega
theorem vN_injC : ∀ (n : Nat) (L M : List Int32), L.length = n → okC L → okC M → vN L = vN M → L = M := by
  intro n
  induction n with
  | zero =>
    intro L M hl _ hM he
    have : L = [] := List.eq_nil_of_length_eq_zero hl
    subst this
    rcases List.eq_nil_or_concat M with e | ⟨M', c, e⟩
    · exact e.symm
    · rw [List.concat_eq_append] at e
      subst e
      obtain ⟨b1, b2, b3⟩ := okC_snoc hM
      rw [vN_snoc] at he
      have : vN ([] : List Int32) = 0 := rfl
      omega
  | succ n ih =>
    intro L M hl hL hM he
    rcases List.eq_nil_or_concat L with e | ⟨L', c, e⟩
    · rw [e] at hl; cases hl
    · rw [List.concat_eq_append] at e
      subst e
      obtain ⟨b1, b2, b3⟩ := okC_snoc hL
      rw [List.length_append] at hl
      have hm : L'.length = n := by simpa using hl
      rw [vN_snoc] at he
      rcases List.eq_nil_or_concat M with e | ⟨M', d, e⟩
      · rw [e] at he
        have : vN ([] : List Int32) = 0 := rfl
        omega
      · rw [List.concat_eq_append] at e
        subst e
        obtain ⟨d1, d2, d3⟩ := okC_snoc hM
        rw [vN_snoc] at he
        have hcd : c = d := tI_eq.mpr (by omega)
        rw [ih L' M' hm b1 d1 (by omega), hcd]
theorem pkL_valC : ∀ (n : Nat) (L : List Int32), L.length = n → n ≤ 7 → okC L → (pkL L).toInt = (vN L : Int) := by
  intro n
  induction n with
  | zero =>
    intro L hl _ _
    have : L = [] := List.eq_nil_of_length_eq_zero hl
    subst this
    rfl
  | succ n ih =>
    intro L hl hn hb
    rcases List.eq_nil_or_concat L with e | ⟨M, c, e⟩
    · rw [e] at hl; cases hl
    · rw [List.concat_eq_append] at e
      subst e
      obtain ⟨b1, b2, b3⟩ := okC_snoc hb
      rw [List.length_append] at hl
      have hm : M.length = n := by simpa using hl
      have i1 := ih M hm (by omega) b1
      have i2 := vN_ltC n M hm b1
      have hlt : vN M < 36028797018963968 := by
        have : 256 ^ n ≤ 256 ^ 6 := Nat.pow_le_pow_right (by decide) (by omega)
        have e6 : (256 : Nat) ^ 6 = 281474976710656 := by decide
        omega
      rw [pkL_snoc, half_val (by omega) (by omega) (by omega) (by omega), i1, vN_snoc]
      omega
theorem pkL_injC {L M : List Int32} (h1 : L.length ≤ 7) (h2 : M.length ≤ 7) (hL : okC L) (hM : okC M) (e : pkL L = pkL M) : L = M := by
  refine vN_injC _ L M rfl hL hM ?_
  have a1 := pkL_valC _ L rfl h1 hL
  have a2 := pkL_valC _ M rfl h2 hM
  rw [e] at a1
  omega
theorem okB_okC {L : List Int32} (h : okB L) : okC L := fun x hx => ⟨(h x hx).1.1, by have := (h x hx).1.2; omega⟩
theorem okC_take {L : List Int32} (h : okC L) (n : Nat) : okC (L.take n) := fun x hx => h x (List.mem_of_mem_take hx)
theorem okC_drop {L : List Int32} (h : okC L) (n : Nat) : okC (L.drop n) := fun x hx => h x (List.mem_of_mem_drop hx)
/-- a text that is packed as a NAME is that NAME -/
theorem Nm_of {L : List Int32} {H a b : Int64} {t : Int32} (hl : L.length ≤ 12) (hc : okC L) (hn : NmR H t a b) (e1 : a = pkL (L.take 6)) (e2 : b = pkL (L.drop 6)) : NmL L H t a b := by
  obtain ⟨M, m1, m2, m3, m4, m5, m6⟩ := hn
  have d1 := pkL_injC (by rw [List.length_take]; omega) (by rw [List.length_take]; omega) (okC_take hc 6) (okC_take (okB_okC m2) 6) (e1.symm.trans m5)
  have d2 := pkL_injC (by rw [List.length_drop]; omega) (by rw [List.length_drop]; omega) (okC_drop hc 6) (okC_drop (okB_okC m2) 6) (e2.symm.trans m6)
  have : L = M := by rw [← List.take_append_drop 6 L, ← List.take_append_drop 6 M, d1, d2]
  rw [this]
  exact ⟨m1, m2, m3, m4, m5, m6⟩
def fMt (u : RSt) (a b k : Nat) (A B : Int64) : Prop := u.2.2.2 a k = A ∧ u.2.2.2 b k = B
/-- the rows of the reference for one sort of names -/
def FK (s : Nat) (l1 : Int32) (a b bs c : Nat) : Prop := (l1 = 0 ∧ a = 17 ∧ b = 18 ∧ bs = 160 * s ∧ c = 19) ∨ (l1 = 1 ∧ a = 40 ∧ b = 41 ∧ bs = 24 * s ∧ c = 42) ∨ (l1 = 2 ∧ a = 46 ∧ b = 47 ∧ bs = 8 * s ∧ c = 48) ∨ (l1 = 3 ∧ a = 34 ∧ b = 35 ∧ bs = 24 * s ∧ c = 36) ∨ (l1 = 4 ∧ a = 34 ∧ b = 35 ∧ bs = 24 * s + 8 ∧ c = 37)
section Fnd
variable {v w : CSt} {u x : RSt} {q s T N M len : Nat} {l1 r : Int32} {by_ : Nat → Int32}
theorem c_isWord (hY : BY by_ len) (hb : ∀ p, p < len → cA v 201 p &&& 255 = by_ p) (hl : l1.toInt = (len : Int)) : pq (F_X9_isWord N l1 v) (fun r w => w = xI v 3 l1 ∧ ((r = 1 ∧ (1 ≤ len ∧ len ≤ 12 ∧ ∀ p, p < len → wdB (by_ p) = true)) ∨ (r = 0 ∧ ¬ (1 ≤ len ∧ len ≤ 12 ∧ ∀ p, p < len → wdB (by_ p) = true)))) := by
  have e1 : (1 : Int32).toInt = 1 := by decide
  have e12 : (12 : Int32).toInt = 12 := by decide
  have h6 := hY.1
  have hC : BC by_ len (xI v 3 l1) := ⟨hl, hb⟩
  have loop : ∀ (M : Nat) (a : Int32 × Int32 × CSt), (a.1 = l1 ∧ a.2.2 = xI v 3 l1 ∧ ∃ m : Nat, a.2.1.toInt = (m : Int) ∧ m ≤ len ∧ ∀ p, p < m → wdB (by_ p) = true) → pq (LP_X9_isWord_20 N M a) (fun r w => w = xI v 3 l1 ∧ ((r = 1 ∧ ∀ p, p < len → wdB (by_ p) = true) ∨ (r = 0 ∧ ¬ ∀ p, p < len → wdB (by_ p) = true))) := by
    refine pq_lp (Z := fun _ r w => w = xI v 3 l1 ∧ ((r = 1 ∧ ∀ p, p < len → wdB (by_ p) = true) ∨ (r = 0 ∧ ¬ ∀ p, p < len → wdB (by_ p) = true))) (fun (a : Int32 × Int32 × CSt) => a.1 = l1 ∧ a.2.2 = xI v 3 l1 ∧ ∃ m : Nat, a.2.1.toInt = (m : Int) ∧ m ≤ len ∧ ∀ p, p < m → wdB (by_ p) = true) ?_
    rintro R ⟨a1, a2, v'⟩ ⟨q1, q3, m, h2, hm, hw⟩ ih
    dsimp only at q1 q3 h2 ih ⊢
    subst q1
    subst q3
    show pq (B_X9_isWord_20 N R a1 a2 (xI v 3 a1)) _
    unfold B_X9_isWord_20
    refine pq_if (fun c => ?_) (fun c => ?_)
    · have := Int32.le_iff_toInt_le.mp c
      exact pq_some ⟨rfl, Or.inl ⟨rfl, fun p hp => hw p (by omega)⟩⟩
    · have c3 : m < len := by
        have := Int32.lt_iff_toInt_lt.mp (Int32.not_le.mp c)
        omega
      refine c_byte hY hC h2 ?_
      refine pq_pb (fun r4 e4 => ?_)
      rw [wB_c hY m] at e4
      injection e4 with e4
      by_cases z : wdB (by_ m) = true
      · rw [if_pos z] at e4
        rw [← e4, if_neg (by decide)]
        refine ih (a1, a2 + 1, xI v 3 a1) ⟨rfl, rfl, m + 1, ?_, by omega, fun p hp => ?_⟩
        · show (a2 + 1).toInt = _
          rw [tI_add (by omega) (by omega), e1, h2]
          omega
        · rcases (show p < m ∨ p = m by omega) with t | t
          · exact hw p t
          · rw [t]; exact z
      · rw [if_neg z] at e4
        rw [← e4, if_pos rfl]
        exact pq_some ⟨rfl, Or.inr ⟨rfl, fun t => z (t m c3)⟩⟩
  unfold F_X9_isWord B_X9_isWord_0
  refine pq_pc ?_
  refine pq_if (fun c => pq_some ⟨rfl, Or.inr ⟨rfl, fun t => ?_⟩⟩) (fun c => pq_if (fun c2 => ?_) (fun c2 => pq_some ⟨rfl, Or.inr ⟨rfl, fun t => ?_⟩⟩))
  · have := Int32.lt_iff_toInt_lt.mp c
    have t1 := t.1
    omega
  · have c' : 1 ≤ len := by
      have := Int32.le_iff_toInt_le.mp (Int32.not_lt.mp c)
      omega
    have c'' : len ≤ 12 := by
      have := Int32.le_iff_toInt_le.mp c2
      omega
    refine pq_m (loop N (l1, 0, xI v 3 l1) ⟨rfl, rfl, 0, rfl, Nat.zero_le _, fun p hp => absurd hp (Nat.not_lt_zero p)⟩) (fun r w h => ⟨h.1, ?_⟩)
    rcases h.2 with ⟨a, b⟩ | ⟨a, b⟩
    · exact Or.inl ⟨a, c', c'', b⟩
    · exact Or.inr ⟨a, fun t => b t.2.2⟩
  · have := Int32.lt_iff_toInt_lt.mp (Int32.not_le.mp c2)
    have t2 := t.2.1
    omega
theorem gl_of {m : Nat} (h : mI v m 2 = l1) (hl : l1.toInt ≤ 4) : gl v m := by
  have e4 : (4 : Int32).toInt = 4 := by decide
  unfold gl
  rw [h]
  intro z
  have := Int32.lt_iff_toInt_lt.mp z
  omega
theorem find_c (h : TBM v u q s T) (h8 : CB8 v) (hq : cR v 0 = q) (hq2 : q < 2) (hY : BY by_ len) (h0 : (cI v 0).toInt = (len : Int)) (hb : ∀ p, p < len → cA v 201 p &&& 255 = by_ p) (hl0 : 0 ≤ l1.toInt) (hl4 : l1.toInt ≤ 4) : pq (F_X11_find N l1 v) (fun y _ => (∃ x, x < T ∧ (1 ≤ len ∧ len ≤ 12 ∧ ∀ p, p < len → wdB (by_ p) = true) ∧ mI v (169 * q + x) 2 = l1 ∧ mL v (169 * q + x) 0 = pkL ((blL by_ 0 len).take 8) ∧ mI v (169 * q + x) 1 = pkS ((blL by_ 0 len).drop 8) ∧ y = .inr (mI v (169 * q + x) 4)) ∨ (y = .inr (-1) ∧ ((¬ (1 ≤ len ∧ len ≤ 12 ∧ ∀ p, p < len → wdB (by_ p) = true)) ∨ ∀ x, x < T → mI v (169 * q + x) 2 = l1 → ¬ (mL v (169 * q + x) 0 = pkL ((blL by_ 0 len).take 8) ∧ mI v (169 * q + x) 1 = pkS ((blL by_ 0 len).drop 8))))) := by
  have e0 : (0 : Int32).toInt = 0 := by decide
  have e4 : (4 : Int32).toInt = 4 := by decide
  have e7 : (7 : Int32).toInt = 7 := by decide
  have e8 : (8 : Int32).toInt = 8 := by decide
  unfold F_X11_find B_X11_find_0
  rw [if_neg (fun z => by have := Int32.lt_iff_toInt_lt.mp z; omega), if_pos (Int32.le_iff_toInt_le.mpr (by omega))]
  refine pq_bc (pq_m (c_isWord hY hb h0) (fun r w hw => ?_))
  obtain ⟨ew, hr⟩ := hw
  rcases hr with ⟨hr, hW⟩ | ⟨hr, hW⟩
  · rw [hr, if_neg (by decide)]
    have hC : BC by_ len w := by rw [ew]; exact ⟨h0, hb⟩
    have hw0 : (cI w 0).toInt = (len : Int) := by rw [ew]; exact h0
    have eR : cR w 0 = q := by rw [ew]; exact hq
    have eP : (pI w q 12).toInt = (T : Int) := by rw [ew]; exact h.1
    have nm : ∀ m k, mI w m k = mI v m k := fun m k => by rw [ew]; rfl
    have nl : ∀ m k, mL w m k = mL v m k := fun m k => by rw [ew]; rfl
    have t8 : blL by_ 0 (min 8 (len - 0)) = (blL by_ 0 len).take 8 := (blL_take by_ 0 len 8).symm
    have d8 : blL by_ (0 + 8) (len - 0 - 8) = (blL by_ 0 len).drop 8 := (blL_drop by_ 0 len 8).symm
    refine pq_ok (fun _ => ?_)
    refine pq_bc (pq_m (c_head (p := 0) (q := len) hY hC rfl hw0 (Nat.zero_le _) (Nat.le_refl _)) (fun r8 w8 hw8 => ?_))
    obtain ⟨g1, g2⟩ := hw8
    rw [t8] at g2
    rw [g1, g2]
    refine pq_bc (pq_m (c_tail (p := 0) (q := len) hY hC rfl hw0 (Nat.zero_le _) (Nat.le_refl _)) (fun r10 w10 hw10 => ?_))
    obtain ⟨g3, g4⟩ := hw10
    rw [d8] at g4
    rw [g3, g4, eR]
    refine pq_bc (pq_m (k2_ofText eP h.2.1) (fun r12 w12 hw12 => pq_ok (fun _ => ?_)))
    obtain ⟨g5, g6⟩ := hw12
    rw [g5]
    have hu := h.2.2.2.2.2.2.2.2.2.2
    rcases g6 with ⟨x, x1, x2, x3, x4, x5⟩ | ⟨hno, h78⟩
    · rw [nl] at x4
      rw [nm] at x5
      unfold gl at x3
      rw [nm] at x3
      have x3' : gl v (169 * q + x) := x3
      refine pq_if (fun c => pq_some (Or.inl ⟨x, x1, hW, ?_, x4, x5, ?_⟩)) (fun c => pq_some (Or.inr ⟨rfl, Or.inr (fun x' hx' k' n' => c ?_)⟩))
      · rw [nm, x2] at c
        exact c
      · rw [nm, x2]
      · have := hu.1 x' x hx' x1 (gl_of k' hl4) x3' (n'.1.trans x4.symm) (n'.2.trans x5.symm)
        rw [nm, x2, ← this]
        exact k'
    · refine pq_if (fun c => ?_) (fun c => pq_some (Or.inr ⟨rfl, Or.inr (fun x' hx' k' n' => hno x' hx' ?_ ⟨by rw [nl]; exact n'.1, by rw [nm]; exact n'.2⟩)⟩))
      · exfalso
        rw [nm] at c
        obtain ⟨z1, -, -, z4⟩ := h8 q hq2
        rcases h78 with ⟨k, k1, -, -, k2⟩ | ⟨-, k2⟩
        · rw [k2, (z4 k k1).1] at c
          rw [← c] at hl4
          omega
        · rw [k2, z1] at c
          rw [← c] at hl4
          omega
      · have := gl_of k' hl4
        unfold gl at this ⊢
        rw [nm]
        exact this
  · rw [hr, if_pos rfl]
    exact pq_some (Or.inr ⟨rfl, Or.inl hW⟩)
theorem f_204 {a b bs cnt : Nat} {A B : Int64} {l7 : Int32} (h7 : l7.toInt = (cnt : Int)) (hcn : cnt ≤ 160) (stp : ∀ (R : Int32 × Int64 × Int64 × Int32 × Int32 × RSt → Option (Int32 × RSt)) (l8 : Int32) (k : Nat), l8.toInt = (k : Int) → k < cnt → ∀ Q : Int32 → RSt → Prop, (fMt u a b (bs + k) A B → Q l8 u) → (¬ fMt u a b (bs + k) A B → pp (R (l1, A, B, l7, l8 + 1, u)) Q) → pp (B_find_204 M R l1 A B l7 l8 u) Q) (n : Nat) : pp (LP_find_204 M n (l1, A, B, l7, 0, u)) (fun r x => x = u ∧ ((∃ k : Nat, k < cnt ∧ r.toInt = (k : Int) ∧ fMt u a b (bs + k) A B) ∨ (r = -1 ∧ ∀ k, k < cnt → ¬ fMt u a b (bs + k) A B))) := by
  have e1 : (1 : Int32).toInt = 1 := by decide
  refine pp_lp (Z := fun _ (r : Int32) (x : RSt) => x = u ∧ ((∃ k : Nat, k < cnt ∧ r.toInt = (k : Int) ∧ fMt u a b (bs + k) A B) ∨ (r = -1 ∧ ∀ k, k < cnt → ¬ fMt u a b (bs + k) A B))) (fun (t : Int32 × Int64 × Int64 × Int32 × Int32 × RSt) => t.1 = l1 ∧ t.2.1 = A ∧ t.2.2.1 = B ∧ t.2.2.2.1 = l7 ∧ t.2.2.2.2.2 = u ∧ ∃ k : Nat, t.2.2.2.2.1.toInt = (k : Int) ∧ k ≤ cnt ∧ ∀ j, j < k → ¬ fMt u a b (bs + j) A B) ?_ n (l1, A, B, l7, 0, u) ⟨rfl, rfl, rfl, rfl, rfl, 0, rfl, Nat.zero_le _, fun j hj => absurd hj (Nat.not_lt_zero j)⟩
  rintro R ⟨a1, a2, a3, a4, a5, u'⟩ ⟨q1, q2, q3, q4, q6, k, h5, hk, hn⟩ ih
  dsimp only at q1 q2 q3 q4 q6 h5 ih ⊢
  rw [q1, q2, q3, q4, q6]
  by_cases c : l7 ≤ a5
  · unfold B_find_204
    rw [if_pos c]
    have := Int32.le_iff_toInt_le.mp c
    exact pp_some ⟨rfl, Or.inr ⟨rfl, fun j hj => hn j (by omega)⟩⟩
  · have c3 : k < cnt := by
      have := Int32.lt_iff_toInt_lt.mp (Int32.not_le.mp c)
      omega
    refine stp R a5 k h5 c3 _ (fun hm => ⟨rfl, Or.inl ⟨k, c3, h5, hm⟩⟩) (fun hm => ih (l1, A, B, l7, a5 + 1, u) ⟨rfl, rfl, rfl, rfl, rfl, k + 1, ?_, by omega, fun j hj => ?_⟩)
    · show (a5 + 1).toInt = _
      rw [tI_add (by omega) (by omega), e1, h5]
      omega
    · rcases (show j < k ∨ j = k by omega) with t | t
      · exact hn j t
      · rw [t]; exact hm
theorem st_0 {cnt : Nat} {A B : Int64} {l7 : Int32} (h55 : (u.1 55).toInt = (s : Int)) (hs : s < 2) (h7 : l7.toInt = (cnt : Int)) (hcn : cnt ≤ 160) (R : Int32 × Int64 × Int64 × Int32 × Int32 × RSt → Option (Int32 × RSt)) (l8 : Int32) (k : Nat) (h8 : l8.toInt = (k : Int)) (hk : k < cnt) (Q : Int32 → RSt → Prop) (hy : fMt u 17 18 (160 * s + k) A B → Q l8 u) (hn : ¬ fMt u 17 18 (160 * s + k) A B → pp (R (0, A, B, l7, l8 + 1, u)) Q) : pp (B_find_204 M R 0 A B l7 l8 u) Q := by
  have c : ¬ l7 ≤ l8 := fun z => by have := Int32.le_iff_toInt_le.mp z; omega
  have ix : (160 * u.1 55 + l8).toNatClampNeg = 160 * s + k := by
    have := (ix_s (m := 160) (n := 160) (x := l8) (by decide) (by omega) (by omega) h55 hs (by omega) (by omega)).2
    show (160 * u.1 55 + l8).toInt.toNat = 160 * s + k
    omega
  unfold B_find_204
  rw [if_neg c, if_pos (show (0 : Int32) = 0 from rfl)]
  refine pp_rd ?_
  unfold B_find_321
  rw [if_pos (show (0 : Int32) = 0 from rfl)]
  refine pp_rd ?_
  rw [ix]
  unfold B_find_433 B_find_453
  exact pp_if (fun c1 => pp_if (fun c2 => pp_some (hy ⟨c1, c2⟩)) (fun c2 => hn (fun z => c2 z.2))) (fun c1 => hn (fun z => c1 z.1))
theorem st_1 {cnt : Nat} {A B : Int64} {l7 : Int32} (h55 : (u.1 55).toInt = (s : Int)) (hs : s < 2) (h7 : l7.toInt = (cnt : Int)) (hcn : cnt ≤ 24) (R : Int32 × Int64 × Int64 × Int32 × Int32 × RSt → Option (Int32 × RSt)) (l8 : Int32) (k : Nat) (h8 : l8.toInt = (k : Int)) (hk : k < cnt) (Q : Int32 → RSt → Prop) (hy : fMt u 40 41 (24 * s + k) A B → Q l8 u) (hn : ¬ fMt u 40 41 (24 * s + k) A B → pp (R (1, A, B, l7, l8 + 1, u)) Q) : pp (B_find_204 M R 1 A B l7 l8 u) Q := by
  have c : ¬ l7 ≤ l8 := fun z => by have := Int32.le_iff_toInt_le.mp z; omega
  have ix : (24 * u.1 55 + l8).toNatClampNeg = 24 * s + k := by
    have := (ix_s (m := 24) (n := 24) (x := l8) (by decide) (by omega) (by omega) h55 hs (by omega) (by omega)).2
    show (24 * u.1 55 + l8).toInt.toNat = 24 * s + k
    omega
  unfold B_find_204
  rw [if_neg c, if_neg (show ¬ (1 : Int32) = 0 by decide), if_pos (show (1 : Int32) = 1 from rfl)]
  refine pp_rd ?_
  unfold B_find_321
  rw [if_neg (show ¬ (1 : Int32) = 0 by decide), if_pos (show (1 : Int32) = 1 from rfl)]
  refine pp_rd ?_
  rw [ix]
  unfold B_find_433 B_find_453
  exact pp_if (fun c1 => pp_if (fun c2 => pp_some (hy ⟨c1, c2⟩)) (fun c2 => hn (fun z => c2 z.2))) (fun c1 => hn (fun z => c1 z.1))
theorem st_2 {cnt : Nat} {A B : Int64} {l7 : Int32} (h55 : (u.1 55).toInt = (s : Int)) (hs : s < 2) (h7 : l7.toInt = (cnt : Int)) (hcn : cnt ≤ 8) (R : Int32 × Int64 × Int64 × Int32 × Int32 × RSt → Option (Int32 × RSt)) (l8 : Int32) (k : Nat) (h8 : l8.toInt = (k : Int)) (hk : k < cnt) (Q : Int32 → RSt → Prop) (hy : fMt u 46 47 (8 * s + k) A B → Q l8 u) (hn : ¬ fMt u 46 47 (8 * s + k) A B → pp (R (2, A, B, l7, l8 + 1, u)) Q) : pp (B_find_204 M R 2 A B l7 l8 u) Q := by
  have c : ¬ l7 ≤ l8 := fun z => by have := Int32.le_iff_toInt_le.mp z; omega
  have ix : (8 * u.1 55 + l8).toNatClampNeg = 8 * s + k := by
    have := (ix_s (m := 8) (n := 8) (x := l8) (by decide) (by omega) (by omega) h55 hs (by omega) (by omega)).2
    show (8 * u.1 55 + l8).toInt.toNat = 8 * s + k
    omega
  unfold B_find_204
  rw [if_neg c, if_neg (show ¬ (2 : Int32) = 0 by decide), if_neg (show ¬ (2 : Int32) = 1 by decide), if_pos (show (2 : Int32) = 2 from rfl)]
  refine pp_rd ?_
  unfold B_find_321
  rw [if_neg (show ¬ (2 : Int32) = 0 by decide), if_neg (show ¬ (2 : Int32) = 1 by decide), if_pos (show (2 : Int32) = 2 from rfl)]
  refine pp_rd ?_
  rw [ix]
  unfold B_find_433 B_find_453
  exact pp_if (fun c1 => pp_if (fun c2 => pp_some (hy ⟨c1, c2⟩)) (fun c2 => hn (fun z => c2 z.2))) (fun c1 => hn (fun z => c1 z.1))
theorem st_3 {cnt : Nat} {A B : Int64} {l7 : Int32} (h55 : (u.1 55).toInt = (s : Int)) (hs : s < 2) (h7 : l7.toInt = (cnt : Int)) (hcn : cnt ≤ 24) (R : Int32 × Int64 × Int64 × Int32 × Int32 × RSt → Option (Int32 × RSt)) (l8 : Int32) (k : Nat) (h8 : l8.toInt = (k : Int)) (hk : k < cnt) (Q : Int32 → RSt → Prop) (hy : fMt u 34 35 (24 * s + k) A B → Q l8 u) (hn : ¬ fMt u 34 35 (24 * s + k) A B → pp (R (3, A, B, l7, l8 + 1, u)) Q) : pp (B_find_204 M R 3 A B l7 l8 u) Q := by
  have c : ¬ l7 ≤ l8 := fun z => by have := Int32.le_iff_toInt_le.mp z; omega
  have ix : (24 * u.1 55 + l8).toNatClampNeg = 24 * s + k := by
    have := (ix_s (m := 24) (n := 24) (x := l8) (by decide) (by omega) (by omega) h55 hs (by omega) (by omega)).2
    show (24 * u.1 55 + l8).toInt.toNat = 24 * s + k
    omega
  unfold B_find_204
  rw [if_neg c, if_neg (show ¬ (3 : Int32) = 0 by decide), if_neg (show ¬ (3 : Int32) = 1 by decide), if_neg (show ¬ (3 : Int32) = 2 by decide), if_pos (show (3 : Int32) = 3 from rfl)]
  refine pp_rd ?_
  unfold B_find_321
  rw [if_neg (show ¬ (3 : Int32) = 0 by decide), if_neg (show ¬ (3 : Int32) = 1 by decide), if_neg (show ¬ (3 : Int32) = 2 by decide), if_pos (show (3 : Int32) = 3 from rfl)]
  refine pp_rd ?_
  rw [ix]
  unfold B_find_433 B_find_453
  exact pp_if (fun c1 => pp_if (fun c2 => pp_some (hy ⟨c1, c2⟩)) (fun c2 => hn (fun z => c2 z.2))) (fun c1 => hn (fun z => c1 z.1))
theorem st_4 {cnt : Nat} {A B : Int64} {l7 : Int32} (h55 : (u.1 55).toInt = (s : Int)) (hs : s < 2) (h7 : l7.toInt = (cnt : Int)) (hcn : cnt ≤ 16) (R : Int32 × Int64 × Int64 × Int32 × Int32 × RSt → Option (Int32 × RSt)) (l8 : Int32) (k : Nat) (h8 : l8.toInt = (k : Int)) (hk : k < cnt) (Q : Int32 → RSt → Prop) (hy : fMt u 34 35 (24 * s + 8 + k) A B → Q l8 u) (hn : ¬ fMt u 34 35 (24 * s + 8 + k) A B → pp (R (4, A, B, l7, l8 + 1, u)) Q) : pp (B_find_204 M R 4 A B l7 l8 u) Q := by
  have c : ¬ l7 ≤ l8 := fun z => by have := Int32.le_iff_toInt_le.mp z; omega
  have e8 : (8 : Int32).toInt = 8 := by decide
  have ix : (24 * u.1 55 + 8 + l8).toNatClampNeg = 24 * s + 8 + k := by
    have h := (ix_s (m := 24) (n := 24) (x := 8) (by decide) (by omega) (by omega) h55 hs (by omega) (by omega)).2
    have h2 : (24 * u.1 55 + 8 + l8).toInt = (24 * u.1 55 + 8).toInt + l8.toInt := tI_add (by omega) (by omega)
    show (24 * u.1 55 + 8 + l8).toInt.toNat = 24 * s + 8 + k
    omega
  unfold B_find_204
  rw [if_neg c, if_neg (show ¬ (4 : Int32) = 0 by decide), if_neg (show ¬ (4 : Int32) = 1 by decide), if_neg (show ¬ (4 : Int32) = 2 by decide), if_neg (show ¬ (4 : Int32) = 3 by decide)]
  refine pp_rd ?_
  unfold B_find_321
  rw [if_neg (show ¬ (4 : Int32) = 0 by decide), if_neg (show ¬ (4 : Int32) = 1 by decide), if_neg (show ¬ (4 : Int32) = 2 by decide), if_neg (show ¬ (4 : Int32) = 3 by decide)]
  refine pp_rd ?_
  rw [ix]
  unfold B_find_433 B_find_453
  exact pp_if (fun c1 => pp_if (fun c2 => pp_some (hy ⟨c1, c2⟩)) (fun c2 => hn (fun z => c2 z.2))) (fun c1 => hn (fun z => c1 z.1))
theorem f_82z {Q : Int32 → RSt → Prop} (h : u.1 9 = 0 → Q (-1) u) (h' : u.1 9 = 1 → Q 0 u) (h9 : u.1 9 = 0 ∨ u.1 9 = 1) : pp (B_find_82 M l1 0 u) Q := by
  unfold B_find_82
  rw [if_pos rfl]
  rcases h9 with z | z
  · rw [if_pos (by rw [z]; decide)]
    exact pp_some (h z)
  · rw [if_neg (by rw [z]; decide)]
    exact pp_some (h' z)
theorem f_49z {Q : Int32 → RSt → Prop} {i : Int32} (h : pp (B_find_82 M l1 0 u) Q) (n : Nat) : pp (LP_find_49 M n (l1, 0, i, u)) Q := by
  refine pp_lp (Z := fun _ r x => Q r x) (fun (t : Int32 × Int32 × Int32 × RSt) => t.1 = l1 ∧ t.2.1 = 0 ∧ t.2.2.2 = u) ?_ n (l1, 0, i, u) ⟨rfl, rfl, rfl⟩
  rintro R ⟨a1, a2, a3, u'⟩ ⟨q1, q2, q4⟩ ih
  dsimp only at q1 q2 q4 ih ⊢
  rw [q1, q2, q4]
  unfold B_find_49
  refine pp_if (fun _ => h) (fun _ => ?_)
  rw [if_pos rfl]
  exact h
theorem CTN_c {a b bs c : Nat} (h : CTN v u q s T) (hT : T ≤ 160) (hf : FK s l1 a b bs c) : ∃ cnt : Nat, (u.2.2.1 c s).toInt = (cnt : Int) ∧ cnt ≤ (if l1 = 0 then 160 else if l1 = 1 then 24 else if l1 = 2 then 8 else if l1 = 3 then 8 else 16) := by
  unfold CTN at h
  obtain ⟨-, -, -, -, -, h0, h1, h2, h3, h4, -⟩ := h
  rcases hf with ⟨e, -, -, -, ec⟩ | ⟨e, -, -, -, ec⟩ | ⟨e, -, -, -, ec⟩ | ⟨e, -, -, -, ec⟩ | ⟨e, -, -, -, ec⟩
  · subst ec
    refine ⟨(u.2.2.1 19 s).toInt.toNat, by omega, ?_⟩
    rw [e, if_pos (show (0 : Int32) = 0 from rfl)]
    omega
  · subst ec
    refine ⟨(u.2.2.1 42 s).toInt.toNat, by omega, ?_⟩
    rw [e, if_neg (show ¬ (1 : Int32) = 0 by decide), if_pos (show (1 : Int32) = 1 from rfl)]
    omega
  · subst ec
    refine ⟨(u.2.2.1 48 s).toInt.toNat, by omega, ?_⟩
    rw [e, if_neg (show ¬ (2 : Int32) = 0 by decide), if_neg (show ¬ (2 : Int32) = 1 by decide), if_pos (show (2 : Int32) = 2 from rfl)]
    omega
  · subst ec
    refine ⟨(u.2.2.1 36 s).toInt.toNat, by omega, ?_⟩
    rw [e, if_neg (show ¬ (3 : Int32) = 0 by decide), if_neg (show ¬ (3 : Int32) = 1 by decide), if_neg (show ¬ (3 : Int32) = 2 by decide), if_pos (show (3 : Int32) = 3 from rfl)]
    omega
  · subst ec
    refine ⟨(u.2.2.1 37 s).toInt.toNat, by omega, ?_⟩
    rw [e, if_neg (show ¬ (4 : Int32) = 0 by decide), if_neg (show ¬ (4 : Int32) = 1 by decide), if_neg (show ¬ (4 : Int32) = 2 by decide), if_neg (show ¬ (4 : Int32) = 3 by decide)]
    omega
/-- what the reference finds -/
theorem y_find {a b bs c : Nat} (hY : BY by_ len) (hR : BR by_ len u) (h55 : (u.1 55).toInt = (s : Int)) (hs : s < 2) (hC : CTN v u q s T) (hT : T ≤ 160) (hf : FK s l1 a b bs c) (hl0 : 0 ≤ l1.toInt) (hl4 : l1.toInt ≤ 4) : pp (F_find M l1 u) (fun r x => x.1 9 = 0 ∧ (((1 ≤ len ∧ len ≤ 12 ∧ ∀ p, p < len → 0 < (by_ p).toInt) ∧ ∃ k : Nat, (k : Int) < (u.2.2.1 c s).toInt ∧ r.toInt = (k : Int) ∧ fMt u a b (bs + k) (pkL ((blL by_ 0 len).take 6)) (pkL ((blL by_ 0 len).drop 6))) ∨ (r = -1 ∧ (¬ (1 ≤ len ∧ len ≤ 12 ∧ ∀ p, p < len → 0 < (by_ p).toInt) ∨ ∀ k : Nat, (k : Int) < (u.2.2.1 c s).toInt → ¬ fMt u a b (bs + k) (pkL ((blL by_ 0 len).take 6)) (pkL ((blL by_ 0 len).drop 6)))))) := by
  have e0 : (0 : Int32).toInt = 0 := by decide
  have e1 : (1 : Int32).toInt = 1 := by decide
  have e13 : (13 : Int32).toInt = 13 := by decide
  have h6 := hY.1
  have hrl : (u.1 1).toInt = (len : Int) := hR.1
  have hR9 : BR by_ len (sI u 9 0) := ⟨hR.1, hR.2⟩
  generalize hP : (fun (r : Int32) (x : RSt) => x.1 9 = 0 ∧ (((1 ≤ len ∧ len ≤ 12 ∧ ∀ p, p < len → 0 < (by_ p).toInt) ∧ ∃ k : Nat, (k : Int) < (u.2.2.1 c s).toInt ∧ r.toInt = (k : Int) ∧ fMt u a b (bs + k) (pkL ((blL by_ 0 len).take 6)) (pkL ((blL by_ 0 len).drop 6))) ∨ (r = -1 ∧ (¬ (1 ≤ len ∧ len ≤ 12 ∧ ∀ p, p < len → 0 < (by_ p).toInt) ∨ ∀ k : Nat, (k : Int) < (u.2.2.1 c s).toInt → ¬ fMt u a b (bs + k) (pkL ((blL by_ 0 len).take 6)) (pkL ((blL by_ 0 len).drop 6)))))) = P
  have zero : ¬ (1 ≤ len ∧ len ≤ 12 ∧ ∀ p, p < len → 0 < (by_ p).toInt) → pp (B_find_82 M l1 0 (sI u 9 0)) P := fun hW => f_82z (fun _ => by rw [← hP]; exact ⟨rfl, Or.inr ⟨rfl, Or.inl hW⟩⟩) (fun z => absurd z (by show ¬ (0 : Int32) = 1; decide)) (Or.inl rfl)
  have full : (1 ≤ len ∧ len ≤ 12 ∧ ∀ p, p < len → 0 < (by_ p).toInt) → pp (B_find_82 M l1 1 (sI u 9 0)) P := by
    intro hW
    unfold B_find_82
    rw [if_neg (by decide)]
    have t6 : blL by_ (0 + 0) (min 6 (len - 0 - 0)) = (blL by_ 0 len).take 6 := (blL_take by_ 0 len 6).symm
    have d6 : blL by_ (0 + 6) (min 6 (len - 0 - 6)) = (blL by_ 0 len).drop 6 := by
      rw [blL_drop, show min 6 (len - 0 - 6) = len - 6 by omega]
    refine pp_bn (pp_m (r_packed (p := 0) (q := len) (f := 0) hY hR9 rfl hrl rfl (Nat.zero_le _) (Nat.le_refl _) (by omega)) (fun r3 w3 h3 => ?_))
    obtain ⟨g1, g2⟩ := h3
    rw [t6] at g2
    rw [g1, g2]
    refine pp_bn (pp_m (r_packed (p := 0) (q := len) (f := 6) hY hR9 rfl hrl (by decide) (Nat.zero_le _) (Nat.le_refl _) (by omega)) (fun r5 w5 h5 => ?_))
    obtain ⟨g3, g4⟩ := h5
    rw [d6] at g4
    rw [g3, g4]
    obtain ⟨cnt, hc1, hc2⟩ := CTN_c hC hT hf
    have n55 : ((sI u 9 0).1 55).toNatClampNeg = s := n_of h55
    have fin : ∀ (r : Int32) (x : RSt), (x = sI u 9 0 ∧ ((∃ k : Nat, k < cnt ∧ r.toInt = (k : Int) ∧ fMt (sI u 9 0) a b (bs + k) (pkL ((blL by_ 0 len).take 6)) (pkL ((blL by_ 0 len).drop 6))) ∨ (r = -1 ∧ ∀ k, k < cnt → ¬ fMt (sI u 9 0) a b (bs + k) (pkL ((blL by_ 0 len).take 6)) (pkL ((blL by_ 0 len).drop 6))))) → P r x := by
      intro r x hx
      obtain ⟨e, hx⟩ := hx
      rw [e, ← hP]
      rcases hx with ⟨k, k1, k2, k3⟩ | ⟨k1, k2⟩
      · exact ⟨rfl, Or.inl ⟨hW, k, by omega, k2, k3⟩⟩
      · exact ⟨rfl, Or.inr ⟨k1, Or.inr (fun k hk => k2 k (by omega))⟩⟩
    rcases hf with ⟨f1, f2, f3, f4, f5⟩ | ⟨f1, f2, f3, f4, f5⟩ | ⟨f1, f2, f3, f4, f5⟩ | ⟨f1, f2, f3, f4, f5⟩ | ⟨f1, f2, f3, f4, f5⟩
    · rw [f2, f3, f4] at fin
      rw [f5] at hc1
      rw [f1] at hc2 ⊢
      rw [if_pos (show (0 : Int32) = 0 from rfl)] at hc2
      rw [if_pos (show (0 : Int32) = 0 from rfl)]
      refine pp_rd ?_
      rw [n55]
      unfold B_find_199
      exact pp_m (f_204 (u := sI u 9 0) (l1 := 0) (a := 17) (b := 18) (bs := 160 * s) (cnt := cnt) hc1 (by omega) (st_0 (u := sI u 9 0) h55 hs hc1 (by omega)) M) fin
    · rw [f2, f3, f4] at fin
      rw [f5] at hc1
      rw [f1] at hc2 ⊢
      rw [if_neg (show ¬ (1 : Int32) = 0 by decide), if_pos (show (1 : Int32) = 1 from rfl)] at hc2
      rw [if_neg (show ¬ (1 : Int32) = 0 by decide), if_pos (show (1 : Int32) = 1 from rfl)]
      refine pp_rd ?_
      rw [n55]
      unfold B_find_199
      exact pp_m (f_204 (u := sI u 9 0) (l1 := 1) (a := 40) (b := 41) (bs := 24 * s) (cnt := cnt) hc1 (by omega) (st_1 (u := sI u 9 0) h55 hs hc1 (by omega)) M) fin
    · rw [f2, f3, f4] at fin
      rw [f5] at hc1
      rw [f1] at hc2 ⊢
      rw [if_neg (show ¬ (2 : Int32) = 0 by decide), if_neg (show ¬ (2 : Int32) = 1 by decide), if_pos (show (2 : Int32) = 2 from rfl)] at hc2
      rw [if_neg (show ¬ (2 : Int32) = 0 by decide), if_neg (show ¬ (2 : Int32) = 1 by decide), if_pos (show (2 : Int32) = 2 from rfl)]
      refine pp_rd ?_
      rw [n55]
      unfold B_find_199
      exact pp_m (f_204 (u := sI u 9 0) (l1 := 2) (a := 46) (b := 47) (bs := 8 * s) (cnt := cnt) hc1 (by omega) (st_2 (u := sI u 9 0) h55 hs hc1 (by omega)) M) fin
    · rw [f2, f3, f4] at fin
      rw [f5] at hc1
      rw [f1] at hc2 ⊢
      rw [if_neg (show ¬ (3 : Int32) = 0 by decide), if_neg (show ¬ (3 : Int32) = 1 by decide), if_neg (show ¬ (3 : Int32) = 2 by decide), if_pos (show (3 : Int32) = 3 from rfl)] at hc2
      rw [if_neg (show ¬ (3 : Int32) = 0 by decide), if_neg (show ¬ (3 : Int32) = 1 by decide), if_neg (show ¬ (3 : Int32) = 2 by decide), if_pos (show (3 : Int32) = 3 from rfl)]
      refine pp_rd ?_
      rw [n55]
      unfold B_find_199
      exact pp_m (f_204 (u := sI u 9 0) (l1 := 3) (a := 34) (b := 35) (bs := 24 * s) (cnt := cnt) hc1 (by omega) (st_3 (u := sI u 9 0) h55 hs hc1 (by omega)) M) fin
    · rw [f2, f3, f4] at fin
      rw [f5] at hc1
      rw [f1] at hc2 ⊢
      rw [if_neg (show ¬ (4 : Int32) = 0 by decide), if_neg (show ¬ (4 : Int32) = 1 by decide), if_neg (show ¬ (4 : Int32) = 2 by decide), if_neg (show ¬ (4 : Int32) = 3 by decide)] at hc2
      rw [if_neg (show ¬ (4 : Int32) = 0 by decide), if_neg (show ¬ (4 : Int32) = 1 by decide), if_neg (show ¬ (4 : Int32) = 2 by decide), if_neg (show ¬ (4 : Int32) = 3 by decide)]
      refine pp_rd ?_
      rw [n55]
      unfold B_find_199
      exact pp_m (f_204 (u := sI u 9 0) (l1 := 4) (a := 34) (b := 35) (bs := 24 * s + 8) (cnt := cnt) hc1 (by omega) (st_4 (u := sI u 9 0) h55 hs hc1 (by omega)) M) fin
  have loop : (1 ≤ len ∧ len ≤ 12) → ∀ n, pp (LP_find_49 M n (l1, 1, 0, sI u 9 0)) P := by
    intro hlen n
    refine pp_lp (Z := fun _ r x => P r x) (fun (t : Int32 × Int32 × Int32 × RSt) => t.1 = l1 ∧ t.2.2.2 = sI u 9 0 ∧ ((t.2.1 = 0 ∧ ¬ (1 ≤ len ∧ len ≤ 12 ∧ ∀ p, p < len → 0 < (by_ p).toInt)) ∨ (t.2.1 = 1 ∧ ∃ m : Nat, t.2.2.1.toInt = (m : Int) ∧ m ≤ len ∧ ∀ p, p < m → 0 < (by_ p).toInt))) ?_ n (l1, 1, 0, sI u 9 0) ⟨rfl, rfl, Or.inr ⟨rfl, 0, rfl, Nat.zero_le _, fun p hp => absurd hp (Nat.not_lt_zero p)⟩⟩
    rintro R ⟨a1, a2, a3, u'⟩ ⟨q1, q4, hq⟩ ih
    dsimp only at q1 q4 hq ih ⊢
    rw [q1, q4]
    rcases hq with ⟨q2, hW⟩ | ⟨q2, m, h3, hm, hp⟩
    · rw [q2]
      unfold B_find_49
      refine pp_if (fun _ => zero hW) (fun _ => ?_)
      rw [if_pos rfl]
      exact zero hW
    · rw [q2]
      unfold B_find_49
      refine pp_if (fun cc => ?_) (fun cc => ?_)
      · have cc : (u.1 1).toInt ≤ a3.toInt := Int32.le_iff_toInt_le.mp cc
        exact full ⟨hlen.1, hlen.2, fun p hp' => hp p (by omega)⟩
      · have cc : ¬ (u.1 1).toInt ≤ a3.toInt := fun z => cc (Int32.le_iff_toInt_le.mpr z)
        have c3 : m < len := by omega
        rw [if_neg (by decide)]
        refine pp_rd ?_
        have n3 : a3.toNatClampNeg = m := n_of h3
        rw [n3, show (sI u 9 0).2.2.1 0 m = by_ m from hR.2 m c3]
        unfold B_find_75
        refine pp_if (fun d => ?_) (fun d => ?_)
        · have d := Int32.le_iff_toInt_le.mp d
          refine ih (l1, 0, a3 + 1, sI u 9 0) ⟨rfl, rfl, Or.inl ⟨rfl, fun t => ?_⟩⟩
          have := t.2.2 m c3
          omega
        · have d := Int32.lt_iff_toInt_lt.mp (Int32.not_le.mp d)
          refine ih (l1, 1, a3 + 1, sI u 9 0) ⟨rfl, rfl, Or.inr ⟨rfl, m + 1, ?_, by omega, fun p hp' => ?_⟩⟩
          · show (a3 + 1).toInt = _
            rw [tI_add (by omega) (by omega), e1, h3]
            omega
          · rcases (show p < m ∨ p = m by omega) with t | t
            · exact hp p t
            · rw [t]; omega
  have hin := rin0 (l := l1) (m := 5) (by decide) (by decide)
  rw [show (5 : Int32) - 1 = 4 by decide] at hin
  have e5 : (5 : Int32).toInt = 5 := by decide
  unfold F_find B_find_0
  rcases hin with ⟨-, n⟩ | ⟨e, -⟩
  · exact absurd ⟨hl0, by omega⟩ n
  · rw [if_neg (by rw [e]; decide)]
    unfold B_find_15
    refine pp_pu ?_
    refine pp_if (fun c1 => ?_) (fun c1 => pp_if (fun c2 => ?_) (fun c2 => pp_if (fun c3 => ?_) (fun c3 => absurd rfl c3)))
    · have c1 : (u.1 1).toInt ≤ (0 : Int32).toInt := Int32.le_iff_toInt_le.mp c1
      unfold B_find_45 B_find_46
      exact f_49z (zero (fun t => by have := t.1; omega)) M
    · have c2 : (13 : Int32).toInt ≤ (u.1 1).toInt := Int32.le_iff_toInt_le.mp c2
      unfold B_find_45 B_find_46
      exact f_49z (zero (fun t => by have := t.2.1; omega)) M
    · have c1 : ¬ (u.1 1).toInt ≤ (0 : Int32).toInt := fun z => c1 (Int32.le_iff_toInt_le.mpr z)
      have c2 : ¬ (13 : Int32).toInt ≤ (u.1 1).toInt := fun z => c2 (Int32.le_iff_toInt_le.mpr z)
      unfold B_find_46
      exact loop ⟨by omega, by omega⟩ M
/-- the rows and the names of one sort -/
theorem FK_row {a b bs c : Nat} (h : TBM v u q s T) (hf : FK s l1 a b bs c) : (∀ k : Nat, (k : Int) < (u.2.2.1 c s).toInt → ∃ y, y < T ∧ mI v (169 * q + y) 2 = l1 ∧ (mI v (169 * q + y) 4).toInt = (k : Int) ∧ rN v u (169 * q + y) a b (bs + k)) ∧ (∀ y, y < T → mI v (169 * q + y) 2 = l1 → ∃ k : Nat, (k : Int) < (u.2.2.1 c s).toInt ∧ (mI v (169 * q + y) 4).toInt = (k : Int) ∧ rN v u (169 * q + y) a b (bs + k)) := by
  obtain ⟨t1, t2, t3, t4, t5, ⟨t6, t6'⟩, t7, t8, t9, t10, t11⟩ := h
  have c := t7
  unfold CTN at c
  obtain ⟨c0, c1, c2, c3, c4, -⟩ := c
  have hn : ∀ y, y < T → mI v (169 * q + y) 2 = l1 → l1.toInt ≤ 4 → (mI v (169 * q + y) 4).toInt = ((mI v (169 * q + y) 4).toNatClampNeg : Nat) := fun y hy hk h4 => by
    have := t4 y hy (gl_of hk h4)
    show (mI v (169 * q + y) 4).toInt = (((mI v (169 * q + y) 4).toInt.toNat : Nat) : Int)
    omega
  have two : ∀ y, y < T → mI v (169 * q + y) 2 = l1 → ∃ k : Nat, (k : Int) < (u.2.2.1 c s).toInt ∧ (mI v (169 * q + y) 4).toInt = (k : Int) ∧ rN v u (169 * q + y) a b (bs + k) := by
    intro y hy hk
    rcases hf with ⟨f1, f2, f3, f4, f5⟩ | ⟨f1, f2, f3, f4, f5⟩ | ⟨f1, f2, f3, f4, f5⟩ | ⟨f1, f2, f3, f4, f5⟩ | ⟨f1, f2, f3, f4, f5⟩
    · rw [f1] at hk
      obtain ⟨k, k1, -, -, -, -, -, -, k8, -, -, k11⟩ := t5 y hy hk
      rw [f2, f3, f4, f5]
      exact ⟨k, k11, k1, k8⟩
    · rw [f1] at hk
      obtain ⟨k, r, k1, -, -, -, -, -, -, k8, k9⟩ := t10 y hy hk
      rw [f2, f3, f4, f5]
      exact ⟨k, k9, k1, k8⟩
    · have hz := hn y hy hk (by rw [f1]; decide)
      rw [f1] at hk
      obtain ⟨z1, z2⟩ := (t9 y hy).1 hk
      rw [f2, f3, f4, f5]
      exact ⟨_, by omega, hz, z2⟩
    · have hz := hn y hy hk (by rw [f1]; decide)
      rw [f1] at hk
      obtain ⟨z1, z2⟩ := (t9 y hy).2.1 hk
      rw [f2, f3, f4, f5]
      exact ⟨_, by omega, hz, z2⟩
    · have hz := hn y hy hk (by rw [f1]; decide)
      rw [f1] at hk
      obtain ⟨z1, z2⟩ := (t9 y hy).2.2 hk
      rw [f2, f3, f4, f5]
      exact ⟨_, by omega, hz, z2⟩
  refine ⟨fun k hk => ?_, two⟩
  have one : ∃ so : Nat, so ≤ 4 ∧ l1.toInt = (so : Int) ∧ pA v q 9 so = u.2.2.1 c s := by
    rcases hf with ⟨f1, f2, f3, f4, f5⟩ | ⟨f1, f2, f3, f4, f5⟩ | ⟨f1, f2, f3, f4, f5⟩ | ⟨f1, f2, f3, f4, f5⟩ | ⟨f1, f2, f3, f4, f5⟩
    · exact ⟨0, by omega, by rw [f1]; decide, by rw [f5]; exact c0⟩
    · exact ⟨1, by omega, by rw [f1]; decide, by rw [f5]; exact c1⟩
    · exact ⟨2, by omega, by rw [f1]; decide, by rw [f5]; exact c2⟩
    · exact ⟨3, by omega, by rw [f1]; decide, by rw [f5]; exact c3⟩
    · exact ⟨4, by omega, by rw [f1]; decide, by rw [f5]; exact c4⟩
  obtain ⟨so, s1, s2, s3⟩ := one
  obtain ⟨y, y1, y2, y3, y4⟩ := t6' so s1 k (by rw [s3]; exact hk)
  have hy : mI v (169 * q + y) 2 = l1 := tI_eq.mpr (by omega)
  obtain ⟨k', k1, k2, k3⟩ := two y y1 hy
  have ek : k' = k := by omega
  rw [ek] at k3
  exact ⟨y, y1, hy, y4, k3⟩
theorem blL_mem {p : Nat} (hp : p < len) : by_ p ∈ blL by_ 0 len := by
  unfold blL
  exact List.mem_map.mpr ⟨p, List.mem_range.mpr hp, by rw [Nat.zero_add]⟩
theorem find_T (h : TBM v u q s T) (h8 : CB8 v) (hq : cR v 0 = q) (hq2 : q < 2) (h55 : (u.1 55).toInt = (s : Int)) (hs : s < 2) (hY : BY by_ len) (h0 : (cI v 0).toInt = (len : Int)) (hb : ∀ p, p < len → cA v 201 p &&& 255 = by_ p) (hR : BR by_ len u) : pq (F_X11_find N l1 v) (fun y w => pp (F_find M l1 u) (fun r x => (y = .inl 1 ∧ x.1 9 = 1) ∨ (y = .inr r ∧ x.1 9 = 0))) := by
  have e0 : (0 : Int32).toInt = 0 := by decide
  have e4 : (4 : Int32).toInt = 4 := by decide
  have e5 : (5 : Int32).toInt = 5 := by decide
  by_cases hl : 0 ≤ l1.toInt ∧ l1.toInt ≤ 4
  · obtain ⟨hl0, hl4⟩ := hl
    have hf : ∃ a b bs c, FK s l1 a b bs c := by
      have : l1 = 0 ∨ l1 = 1 ∨ l1 = 2 ∨ l1 = 3 ∨ l1 = 4 := by
        rcases (show l1.toInt = 0 ∨ l1.toInt = 1 ∨ l1.toInt = 2 ∨ l1.toInt = 3 ∨ l1.toInt = 4 by omega) with z | z | z | z | z
        · exact Or.inl (tI_eq.mpr (by rw [z]; decide))
        · exact Or.inr (Or.inl (tI_eq.mpr (by rw [z]; decide)))
        · exact Or.inr (Or.inr (Or.inl (tI_eq.mpr (by rw [z]; decide))))
        · exact Or.inr (Or.inr (Or.inr (Or.inl (tI_eq.mpr (by rw [z]; decide)))))
        · exact Or.inr (Or.inr (Or.inr (Or.inr (tI_eq.mpr (by rw [z]; decide)))))
      rcases this with z | z | z | z | z
      · exact ⟨17, 18, 160 * s, 19, Or.inl ⟨z, rfl, rfl, rfl, rfl⟩⟩
      · exact ⟨40, 41, 24 * s, 42, Or.inr (Or.inl ⟨z, rfl, rfl, rfl, rfl⟩)⟩
      · exact ⟨46, 47, 8 * s, 48, Or.inr (Or.inr (Or.inl ⟨z, rfl, rfl, rfl, rfl⟩))⟩
      · exact ⟨34, 35, 24 * s, 36, Or.inr (Or.inr (Or.inr (Or.inl ⟨z, rfl, rfl, rfl, rfl⟩)))⟩
      · exact ⟨34, 35, 24 * s + 8, 37, Or.inr (Or.inr (Or.inr (Or.inr ⟨z, rfl, rfl, rfl, rfl⟩)))⟩
    obtain ⟨a, b, bs, c, hf⟩ := hf
    obtain ⟨row1, row2⟩ := FK_row h hf
    have hu := h.2.2.2.2.2.2.2.2.2.2
    refine pq_m (find_c h h8 hq hq2 hY h0 hb hl0 hl4) (fun y w hy => pp_m (y_find hY hR h55 hs h.2.2.2.2.2.2.1 h.2.1 hf hl0 hl4) (fun r x hx => ?_))
    obtain ⟨x9, hx⟩ := hx
    refine Or.inr ⟨?_, x9⟩
    have hL : (blL by_ 0 len).length = len := blL_len _ _ _
    rcases hy with ⟨z, z1, hW, z3, z4, z5, z6⟩ | ⟨y1, hno⟩
    · have hok : okB (blL by_ 0 len) := blL_ok (p := 0) (q := len) hY (fun k _ hk => hW.2.2 k hk)
      have hNm : NmR (pkL ((blL by_ 0 len).take 8)) (pkS ((blL by_ 0 len).drop 8)) (pkL ((blL by_ 0 len).take 6)) (pkL ((blL by_ 0 len).drop 6)) := ⟨blL by_ 0 len, by rw [hL]; exact hW.2.1, hok, rfl, rfl, rfl, rfl⟩
      rcases hx with ⟨hW', k, k1, k2, k3⟩ | ⟨r1, hr⟩
      · obtain ⟨y', b1, b2, b3, b4⟩ := row1 k k1
        have := (NmR_eq b4 hNm).mpr k3
        have ey := hu.1 y' z b1 z1 (gl_of b2 hl4) (gl_of z3 hl4) (this.1.trans z4.symm) (this.2.trans z5.symm)
        rw [ey] at b3
        rw [z6]
        congr 1
        exact tI_eq.mpr (by omega)
      · exfalso
        rcases hr with n | n
        · exact n ⟨hW.1, hW.2.1, fun p hp => (wB_ok hY (hW.2.2 p hp)).1⟩
        · obtain ⟨k, k1, k2, k3⟩ := row2 z z1 z3
          exact n k k1 ((NmR_eq k3 hNm).mp ⟨z4, z5⟩)
    · rcases hx with ⟨hW', k, k1, k2, k3⟩ | ⟨r1, hr⟩
      · exfalso
        obtain ⟨y', b1, b2, b3, b4⟩ := row1 k k1
        have hc : okC (blL by_ 0 len) := by
          intro cc hcc
          unfold blL at hcc
          obtain ⟨i, i1, i2⟩ := List.mem_map.mp hcc
          have := List.mem_range.mp i1
          rw [← i2, Nat.zero_add]
          exact ⟨hW'.2.2 i this, (hY.2.2 i this).2⟩
        have hN := Nm_of (by rw [hL]; exact hW'.2.1) hc b4 k3.1 k3.2
        obtain ⟨-, n2, n3, n4, -⟩ := hN
        rcases hno with n | n
        · exact n ⟨hW'.1, hW'.2.1, fun p hp => (n2 _ (blL_mem hp)).2⟩
        · exact n y' b1 b2 ⟨n3, n4⟩
      · rw [y1, r1]
  · unfold F_X11_find B_X11_find_0
    have ref : pp (F_find M l1 u) (fun r x => x.1 9 = 1) := by
      have hin := rin0 (l := l1) (m := 5) (by decide) (by decide)
      rw [show (5 : Int32) - 1 = 4 by decide] at hin
      unfold F_find B_find_0
      rcases hin with ⟨e, -⟩ | ⟨-, n⟩
      · rw [if_pos e]
        unfold B_find_15
        refine pp_pu ?_
        have z : pp (B_find_82 M l1 0 (sI u 9 1)) (fun r x => x.1 9 = 1) := f_82z (fun t => absurd t (by show ¬ (1 : Int32) = 0; decide)) (fun _ => rfl) (Or.inr rfl)
        unfold B_find_45 B_find_46
        exact pp_if (fun _ => f_49z z M) (fun _ => pp_if (fun _ => f_49z z M) (fun _ => pp_if (fun t => absurd t (by show ¬ (1 : Int32) = 0; decide)) (fun _ => f_49z z M)))
      · exact absurd ⟨n.1, by omega⟩ hl
    by_cases c1 : l1 < 0
    · rw [if_pos c1]
      exact pq_some (pp_m ref (fun r x hx => Or.inl ⟨rfl, hx⟩))
    · have c1' : ¬ l1.toInt < 0 := fun z => c1 (Int32.lt_iff_toInt_lt.mpr (by rw [e0]; exact z))
      rw [if_neg c1, if_neg (fun z => by have := Int32.le_iff_toInt_le.mp z; exact hl ⟨by omega, by omega⟩)]
      exact pq_some (pp_m ref (fun r x hx => Or.inl ⟨rfl, hx⟩))
theorem find_J {y : Sum Nat Int32} (hJ : J7 v u) (h8 : F_find M l1 u = some (r, x)) (h9 : F_X11_find N l1 v = some (y, w)) : (y = .inl 1 ∧ x.1 9 = 1) ∨ (y = .inr r ∧ x.1 9 = 0) := by
  obtain ⟨hJ5, h01, hr2, s0, T, hs, h55, hT⟩ := hJ
  obtain ⟨⟨-, g8, by_, len, hY, g0, gb, gR⟩, -⟩ := hJ5
  exact find_T hT g8 rfl hr2.1 h55 hs hY g0 gb gR _ _ h9 _ _ h8
end Fnd
