/-! Tokens: words of class and reference. -/
theorem byte_all {P : Int32 → Prop} (h : ∀ n : Nat, n < 257 → P (Int32.ofInt ((n : Int) - 1))) (c : Int32) (h0 : -1 ≤ c.toInt) (h1 : c.toInt < 256) : P c := by
  have := h (c.toInt + 1).toNat (by omega)
  have e : (((c.toInt + 1).toNat : Int) - 1) = c.toInt := by omega
  rw [e, Int32.ofInt_toInt] at this
  exact this
def wdB (c : Int32) : Bool := !(decide (r_let c = 0) && decide (r_dig c = 0))
def dB (c : Int32) : Bool := !decide (r_dig c = 0)
def hB (c : Int32) : Bool := !decide (r_hex c = -1)
theorem BY.b {by_ : Nat → Int32} {len : Nat} (hY : BY by_ len) (p : Nat) : -1 ≤ (by_ p).toInt ∧ (by_ p).toInt < 256 := by
  by_cases h : p < len
  · have := hY.2.2 p h; omega
  · rw [hY.2.1 p (by omega)]; decide
theorem wB_c {N : Nat} {by_ : Nat → Int32} {len : Nat} (hY : BY by_ len) (p : Nat) : F_X9_isWordByte N (by_ p) = some (if wdB (by_ p) = true then 1 else 0) :=
  byte_all (P := fun c => F_X9_isWordByte 0 c = some (if wdB c = true then 1 else 0)) (by decide +kernel) _ (hY.b p).1 (hY.b p).2
theorem wB_ok {by_ : Nat → Int32} {len : Nat} (hY : BY by_ len) {p : Nat} (h : wdB (by_ p) = true) : 0 < (by_ p).toInt ∧ (by_ p).toInt < 128 :=
  byte_all (P := fun c => wdB c = true → 0 < c.toInt ∧ c.toInt < 128) (by decide +kernel) _ (hY.b p).1 (hY.b p).2 h
/-- as long as P holds -/
def rn (P : Int32 → Bool) (by_ : Nat → Int32) (p q : Nat) : Prop := p ≤ q ∧ (∀ k, p ≤ k → k < q → P (by_ k) = true) ∧ P (by_ q) = false
theorem rn_dt {P : Int32 → Bool} {by_ : Nat → Int32} {p q q' : Nat} (h : rn P by_ p q) (h' : rn P by_ p q') : q = q' := by
  rcases Nat.lt_trichotomy q q' with z | z | z
  · have := h'.2.1 q h.1 z; rw [h.2.2] at this; cases this
  · exact z
  · have := h.2.1 q' h'.1 z; rw [h'.2.2] at this; cases this
theorem rn_le {P : Int32 → Bool} {by_ : Nat → Int32} {len p q : Nat} (hY : BY by_ len) (hP : P (-1) = false) (hp : p ≤ len) (h : rn P by_ p q) : q ≤ len := by
  by_cases z : q ≤ len
  · exact z
  · have := h.2.1 len hp (by omega)
    rw [hY.2.1 len (Nat.le_refl _), hP] at this
    cases this
theorem blL_succ (by_ : Nat → Int32) (p n : Nat) : blL by_ p (n + 1) = blL by_ p n ++ [by_ (p + n)] := by
  unfold blL
  rw [List.range_succ, List.map_append]
  rfl
theorem blL_take (by_ : Nat → Int32) (p n m : Nat) : (blL by_ p n).take m = blL by_ p (min m n) := by
  unfold blL
  rw [← List.map_take, List.take_range]
theorem blL_drop (by_ : Nat → Int32) (p n m : Nat) : (blL by_ p n).drop m = blL by_ (p + m) (n - m) := by
  refine List.ext_getElem (by rw [List.length_drop, blL_len, blL_len]) (fun i h1 h2 => ?_)
  rw [List.getElem_drop, blL_at, blL_at, Nat.add_assoc]
theorem blL_ok {by_ : Nat → Int32} {len p q : Nat} (hY : BY by_ len) (h : ∀ k, p ≤ k → k < q → wdB (by_ k) = true) : okB (blL by_ p (q - p)) := by
  intro c hc
  unfold blL at hc
  obtain ⟨i, h1, h2⟩ := List.mem_map.mp hc
  have := List.mem_range.mp h1
  rw [← h2]
  exact wB_ok hY (h (p + i) (by omega) (by omega))
section WordC
variable {by_ : Nat → Int32} {len N p q : Nat} {v : CSt} {l1 l2 : Int32}
theorem c_head (hY : BY by_ len) (h : BC by_ len v) (hl1 : l1.toInt = (p : Int)) (hl2 : l2.toInt = (q : Int)) (hpq : p ≤ q) (hq : q ≤ len) : pq (F_X9_wordHead N l1 l2 v) (fun r w => w = v ∧ r = pkL (blL by_ p (min 8 (q - p)))) := by
  have hb := hY.1
  have e1 : (1 : Int32).toInt = 1 := by decide
  have e8 : (8 : Int32).toInt = 8 := by decide
  have loop : ∀ (M : Nat) (a : Int32 × Int32 × Int64 × Int32 × CSt), (a.1 = l1 ∧ a.2.1 = l2 ∧ a.2.2.2.2 = v ∧ ∃ m : Nat, a.2.2.2.1.toInt = (p + m : Nat) ∧ p + m ≤ q ∧ m ≤ 8 ∧ a.2.2.1 = pkL (blL by_ p m)) → pq (LP_X9_wordHead_5 N M a) (fun r w => w = v ∧ r = pkL (blL by_ p (min 8 (q - p)))) := by
    refine pq_lp (Z := fun _ r w => w = v ∧ r = pkL (blL by_ p (min 8 (q - p)))) (fun (a : Int32 × Int32 × Int64 × Int32 × CSt) => a.1 = l1 ∧ a.2.1 = l2 ∧ a.2.2.2.2 = v ∧ ∃ m : Nat, a.2.2.2.1.toInt = (p + m : Nat) ∧ p + m ≤ q ∧ m ≤ 8 ∧ a.2.2.1 = pkL (blL by_ p m)) ?_
    rintro R ⟨a1, a2, a3, a5, v'⟩ ⟨q1, q2, q3, m, h5, hm, hm8, h3⟩ ih
    dsimp only at q1 q2 q3 h5 h3 ih ⊢
    subst q1
    subst q2
    subst q3
    show pq (B_X9_wordHead_5 N R a1 a2 a3 a5 v') _
    unfold B_X9_wordHead_5
    refine pq_if (fun c => ?_) (fun c => pq_if (fun c2 => ?_) (fun c2 => ?_))
    · have := Int32.le_iff_toInt_le.mp c
      have em : min 8 (q - p) = m := by omega
      rw [em]
      exact pq_some ⟨rfl, h3⟩
    · have := Int32.le_iff_toInt_le.mp c2
      rw [tI_add (by omega) (by omega), e8] at this
      have em : min 8 (q - p) = m := by omega
      rw [em]
      exact pq_some ⟨rfl, h3⟩
    · have c3 : p + m < q := by
        have := Int32.not_le.mp c
        have := Int32.lt_iff_toInt_lt.mp this
        omega
      have c4 : m < 8 := by
        have := Int32.not_le.mp c2
        have := Int32.lt_iff_toInt_lt.mp this
        rw [tI_add (by omega) (by omega), e8] at this
        omega
      refine c_byte hY h h5 ?_
      refine ih (a1, a2, r_half a3 (by_ (p + m)), a5 + 1, v') ⟨rfl, rfl, rfl, m + 1, ?_, by omega, by omega, ?_⟩
      · show (a5 + 1).toInt = _
        rw [tI_add (by omega) (by omega), e1, h5]; omega
      · show r_half a3 (by_ (p + m)) = _
        rw [blL_succ, pkL_snoc, h3]
  exact loop N (l1, l2, 0, l1, v) ⟨rfl, rfl, rfl, 0, hl1, by omega, by omega, rfl⟩
theorem c_tail (hY : BY by_ len) (h : BC by_ len v) (hl1 : l1.toInt = (p : Int)) (hl2 : l2.toInt = (q : Int)) (hpq : p ≤ q) (hq : q ≤ len) : pq (F_X9_wordTail N l1 l2 v) (fun r w => w = v ∧ r = pkS (blL by_ (p + 8) (q - p - 8))) := by
  have hb := hY.1
  have e1 : (1 : Int32).toInt = 1 := by decide
  have e8 : (8 : Int32).toInt = 8 := by decide
  have loop : ∀ (M : Nat) (a : Int32 × Int32 × Int32 × CSt), (a.1 = l2 ∧ a.2.2.2 = v ∧ ∃ m : Nat, a.2.2.1.toInt = (p + 8 + m : Nat) ∧ (m = 0 ∨ p + 8 + m ≤ q) ∧ a.2.1 = pkS (blL by_ (p + 8) m)) → pq (LP_X9_wordTail_8 N M a) (fun r w => w = v ∧ r = pkS (blL by_ (p + 8) (q - p - 8))) := by
    refine pq_lp (Z := fun _ r w => w = v ∧ r = pkS (blL by_ (p + 8) (q - p - 8))) (fun (a : Int32 × Int32 × Int32 × CSt) => a.1 = l2 ∧ a.2.2.2 = v ∧ ∃ m : Nat, a.2.2.1.toInt = (p + 8 + m : Nat) ∧ (m = 0 ∨ p + 8 + m ≤ q) ∧ a.2.1 = pkS (blL by_ (p + 8) m)) ?_
    rintro R ⟨a2, a3, a4, v'⟩ ⟨q1, q3, m, h4, hm, h3⟩ ih
    dsimp only at q1 q3 h4 h3 ih ⊢
    subst q1
    subst q3
    show pq (B_X9_wordTail_8 N R a2 a3 a4 v') _
    unfold B_X9_wordTail_8
    refine pq_if (fun c => ?_) (fun c => ?_)
    · have := Int32.le_iff_toInt_le.mp c
      have em : q - p - 8 = m := by omega
      rw [em]
      exact pq_some ⟨rfl, h3⟩
    · have c3 : p + 8 + m < q := by
        have := Int32.not_le.mp c
        have := Int32.lt_iff_toInt_lt.mp this
        omega
      refine c_byte hY h h4 ?_
      refine ih (a2, hf32 a3 (by_ (p + 8 + m)), a4 + 1, v') ⟨rfl, rfl, m + 1, ?_, by omega, ?_⟩
      · show (a4 + 1).toInt = _
        rw [tI_add (by omega) (by omega), e1, h4]; omega
      · show hf32 a3 (by_ (p + 8 + m)) = _
        rw [blL_succ, pkS_snoc, h3]
  refine loop N (l2, 0, l1 + 8, v) ⟨rfl, rfl, 0, ?_, Or.inl rfl, rfl⟩
  show (l1 + 8).toInt = _
  rw [tI_add (by omega) (by omega), e8, hl1]; rfl
/-- the words table of the class -/
def WT (v : CSt) : Prop := ∀ k, k < 29 → cB v 207 (k + 1) = pkL (kwl.getD k [])
theorem kwl_ok : ∀ k, k < 29 → okB (kwl.getD k []) ∧ (kwl.getD k []).length ≤ 8 := by
  have h : ∀ k, k < 29 → (∀ c ∈ kwl.getD k [], 0 < c.toInt ∧ c.toInt < 128) ∧ (kwl.getD k []).length ≤ 8 := by decide +kernel
  exact h
theorem c_wtype {L : List Int32} (hW : WT v) (hL : okB L) (hn : L.length ≤ 8) : pq (F_X9_wordType N (pkL L) v) (fun r w => w = v ∧ ((∃ k : Nat, k < 29 ∧ r.toInt = (k + 1 : Nat) ∧ kwl.getD k [] = L) ∨ (r = 128 ∧ ∀ k, k < 29 → ¬ kwl.getD k [] = L))) := by
  have e1 : (1 : Int32).toInt = 1 := by decide
  have e29 : (29 : Int32).toInt = 29 := by decide
  have loop : ∀ (M : Nat) (a : Int64 × Int32 × CSt), (a.1 = pkL L ∧ a.2.2 = v ∧ ∃ m : Nat, a.2.1.toInt = (m + 1 : Nat) ∧ m ≤ 29 ∧ ∀ k, k < m → ¬ kwl.getD k [] = L) → pq (LP_X9_wordType_2 N M a) (fun r w => w = v ∧ ((∃ k : Nat, k < 29 ∧ r.toInt = (k + 1 : Nat) ∧ kwl.getD k [] = L) ∨ (r = 128 ∧ ∀ k, k < 29 → ¬ kwl.getD k [] = L))) := by
    refine pq_lp (Z := fun _ (r : Int32) w => w = v ∧ ((∃ k : Nat, k < 29 ∧ r.toInt = (k + 1 : Nat) ∧ kwl.getD k [] = L) ∨ (r = 128 ∧ ∀ k, k < 29 → ¬ kwl.getD k [] = L))) (fun (a : Int64 × Int32 × CSt) => a.1 = pkL L ∧ a.2.2 = v ∧ ∃ m : Nat, a.2.1.toInt = (m + 1 : Nat) ∧ m ≤ 29 ∧ ∀ k, k < m → ¬ kwl.getD k [] = L) ?_
    rintro R ⟨a1, a3, v'⟩ ⟨q1, q3, m, h3, hm, hno⟩ ih
    dsimp only at q1 q3 h3 ih ⊢
    subst q3
    show pq (B_X9_wordType_2 N R a1 a3 v') _
    unfold B_X9_wordType_2
    refine pq_if (fun c => ?_) (fun c => pq_rd ?_)
    · have := Int32.lt_iff_toInt_lt.mp c
      exact pq_some ⟨rfl, Or.inr ⟨rfl, fun k hk => hno k (by omega)⟩⟩
    · have c1 : m < 29 := by
        have := Int32.not_lt.mp c
        have := Int32.le_iff_toInt_le.mp this
        omega
      have en : a3.toNatClampNeg = m + 1 := by show a3.toInt.toNat = _; omega
      rw [en, hW m c1, q1]
      obtain ⟨k1, k2⟩ := kwl_ok m c1
      refine pq_if (fun c2 => pq_some ⟨rfl, Or.inl ⟨m, c1, h3, pkL_inj k2 hn k1 hL c2⟩⟩) (fun c2 => ?_)
      refine ih (pkL L, a3 + 1, v') ⟨rfl, rfl, m + 1, ?_, by omega, fun k hk => ?_⟩
      · show (a3 + 1).toInt = _
        rw [tI_add (by omega) (by omega), e1, h3]; omega
      · rcases Nat.lt_or_eq_of_le (Nat.le_of_lt_succ hk) with z | z
        · exact hno k z
        · rw [z]
          intro q
          exact c2 (by rw [q])
  exact loop N (pkL L, 1, v) ⟨rfl, rfl, 0, (show (1 : Int32).toInt = ((0 + 1 : Nat) : Int) by decide), by omega, fun k hk => absurd hk (by omega)⟩
end WordC
section WordR
variable {by_ : Nat → Int32} {len N p q f : Nat} {u : RSt} {l1 l2 l3 : Int32}
theorem r_packed (hY : BY by_ len) (h : BR by_ len u) (hl1 : l1.toInt = (p : Int)) (hl2 : l2.toInt = (q : Int)) (hl3 : l3.toInt = (f : Int)) (hpq : p ≤ q) (hq : q ≤ len) (hf : f ≤ 6) : pp (F_packed N l1 l2 l3 u) (fun r w => w = u ∧ r = pkL (blL by_ (p + f) (min 6 (q - p - f)))) := by
  have hb := hY.1
  have e1 : (1 : Int32).toInt = 1 := by decide
  have e6 : (6 : Int32).toInt = 6 := by decide
  have e13 : (l1 + l3).toInt = (p + f : Nat) := by rw [tI_add (by omega) (by omega), hl1, hl3]; omega
  have e136 : (l1 + l3 + 6).toInt = (p + f + 6 : Nat) := by rw [tI_add (by omega) (by omega), e13, e6]; omega
  have loop : ∀ (M : Nat) (a : Int32 × Int32 × Int32 × Int64 × Int32 × RSt), (a.1 = l1 ∧ a.2.1 = l2 ∧ a.2.2.1 = l3 ∧ a.2.2.2.2.2 = u ∧ ∃ m : Nat, a.2.2.2.2.1.toInt = (p + f + m : Nat) ∧ (m = 0 ∨ p + f + m ≤ q) ∧ m ≤ 6 ∧ a.2.2.2.1 = pkL (blL by_ (p + f) m)) → pp (LP_packed_8 N M a) (fun r w => w = u ∧ r = pkL (blL by_ (p + f) (min 6 (q - p - f)))) := by
    refine pp_lp (Z := fun _ r w => w = u ∧ r = pkL (blL by_ (p + f) (min 6 (q - p - f)))) (fun (a : Int32 × Int32 × Int32 × Int64 × Int32 × RSt) => a.1 = l1 ∧ a.2.1 = l2 ∧ a.2.2.1 = l3 ∧ a.2.2.2.2.2 = u ∧ ∃ m : Nat, a.2.2.2.2.1.toInt = (p + f + m : Nat) ∧ (m = 0 ∨ p + f + m ≤ q) ∧ m ≤ 6 ∧ a.2.2.2.1 = pkL (blL by_ (p + f) m)) ?_
    rintro R ⟨a1, a2, a3, a4, a6, v⟩ ⟨q1, q2, q3, q4, m, h6, hm, hm6, h4⟩ ih
    dsimp only at q1 q2 q3 q4 h6 h4 ih ⊢
    subst q1
    subst q2
    subst q3
    subst q4
    show pp (B_packed_8 N R a1 a2 a3 a4 a6 v) _
    unfold B_packed_8
    refine pp_if (fun c => ?_) (fun c => pp_if (fun c2 => ?_) (fun c2 => ?_))
    · have := Int32.le_iff_toInt_le.mp c
      have em : min 6 (q - p - f) = m := by omega
      rw [em]
      exact pp_some ⟨rfl, h4⟩
    · have := Int32.le_iff_toInt_le.mp c2
      have em : min 6 (q - p - f) = m := by omega
      rw [em]
      exact pp_some ⟨rfl, h4⟩
    · have c3 : p + f + m < q := by
        have := Int32.not_le.mp c
        have := Int32.lt_iff_toInt_lt.mp this
        omega
      have c4 : m < 6 := by
        have := Int32.not_le.mp c2
        have := Int32.lt_iff_toInt_lt.mp this
        omega
      refine r_see hY h h6 ?_
      refine ih (a1, a2, a3, r_half a4 (by_ (p + f + m)), a6 + 1, v) ⟨rfl, rfl, rfl, rfl, m + 1, ?_, by omega, by omega, ?_⟩
      · show (a6 + 1).toInt = _
        rw [tI_add (by omega) (by omega), e1, h6]; omega
      · show r_half a4 (by_ (p + f + m)) = _
        rw [blL_succ, pkL_snoc, h4]
  exact loop N (l1, l2, l3, 0, l1 + l3, u) ⟨rfl, rfl, rfl, rfl, 0, e13, Or.inl rfl, by omega, rfl⟩
end WordR
