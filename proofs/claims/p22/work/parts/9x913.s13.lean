/-! Tokens: words packed. -/
def pkL (L : List Int32) : Int64 := L.foldl r_half 0
def hf32 (v c : Int32) : Int32 := (v <<< (8 &&& 31)) ||| c
def pkS (L : List Int32) : Int32 := L.foldl hf32 0
def vN (L : List Int32) : Nat := L.foldl (fun v c => v * 256 + c.toInt.toNat) 0
def okB (L : List Int32) : Prop := ∀ c ∈ L, 0 < c.toInt ∧ c.toInt < 128
theorem i64_nat {x : Int64} (h : 0 ≤ x.toInt) : x.toBitVec.toNat = x.toInt.toNat := by
  have h1 := BitVec.toInt_eq_toNat_cond x.toBitVec
  have e : x.toInt = x.toBitVec.toInt := rfl
  have hlt := x.toBitVec.isLt
  split at h1 <;> omega
theorem i32_nat {x : Int32} (h : 0 ≤ x.toInt) : x.toBitVec.toNat = x.toInt.toNat := by
  have h1 := BitVec.toInt_eq_toNat_cond x.toBitVec
  have e : x.toInt = x.toBitVec.toInt := rfl
  have hlt := x.toBitVec.isLt
  split at h1 <;> omega
theorem half_val {v : Int64} {c : Int32} (h0 : 0 ≤ v.toInt) (h1 : v.toInt < 36028797018963968) (h2 : 0 ≤ c.toInt) (h3 : c.toInt < 256) : (r_half v c).toInt = v.toInt * 256 + c.toInt := by
  have ec : c.toInt64.toInt = c.toInt := Int32.toInt_toInt64 c
  have nc : c.toInt64.toBitVec.toNat = c.toInt.toNat := by rw [i64_nat (by omega), ec]
  have nv := i64_nat h0
  have e8 : ((8 : Int32).toInt64 &&& 63) = 8 := by decide
  have key : (r_half v c).toBitVec.toNat = v.toInt.toNat * 256 + c.toInt.toNat := by
    unfold r_half
    rw [e8]
    rw [Int64.toBitVec_or, Int64.toBitVec_shiftLeft]
    have es : (8 : Int64).toBitVec.smod 64 = 8#64 := by decide
    rw [es, BitVec.toNat_or, nc]
    have eh : (v.toBitVec <<< 8#64).toNat = v.toInt.toNat * 256 := by
      show (v.toBitVec <<< (8#64).toNat).toNat = _
      rw [BitVec.toNat_shiftLeft, nv]
      show v.toInt.toNat <<< 8 % 2 ^ 64 = _
      rw [Nat.shiftLeft_eq]
      omega
    rw [eh]
    have := Nat.shiftLeft_add_eq_or_of_lt (b := c.toInt.toNat) (i := 8) (by omega) v.toInt.toNat
    rw [Nat.shiftLeft_eq, show (2 : Nat) ^ 8 = 256 from rfl] at this
    exact this.symm
  have e : (r_half v c).toInt = (r_half v c).toBitVec.toInt := rfl
  have hc := BitVec.toInt_eq_toNat_cond (r_half v c).toBitVec
  rw [key] at hc
  rw [e, hc]
  split <;> omega
theorem hf32_val {v c : Int32} (h0 : 0 ≤ v.toInt) (h1 : v.toInt < 8388608) (h2 : 0 ≤ c.toInt) (h3 : c.toInt < 256) : (hf32 v c).toInt = v.toInt * 256 + c.toInt := by
  have nc := i32_nat h2
  have nv := i32_nat h0
  have e8 : ((8 : Int32) &&& 31) = 8 := by decide
  have key : (hf32 v c).toBitVec.toNat = v.toInt.toNat * 256 + c.toInt.toNat := by
    unfold hf32
    rw [e8]
    rw [Int32.toBitVec_or, Int32.toBitVec_shiftLeft]
    have es : (8 : Int32).toBitVec.smod 32 = 8#32 := by decide
    rw [es, BitVec.toNat_or, nc]
    have eh : (v.toBitVec <<< 8#32).toNat = v.toInt.toNat * 256 := by
      show (v.toBitVec <<< (8#32).toNat).toNat = _
      rw [BitVec.toNat_shiftLeft, nv]
      show v.toInt.toNat <<< 8 % 2 ^ 32 = _
      rw [Nat.shiftLeft_eq]
      omega
    rw [eh]
    have := Nat.shiftLeft_add_eq_or_of_lt (b := c.toInt.toNat) (i := 8) (by omega) v.toInt.toNat
    rw [Nat.shiftLeft_eq, show (2 : Nat) ^ 8 = 256 from rfl] at this
    exact this.symm
  have e : (hf32 v c).toInt = (hf32 v c).toBitVec.toInt := rfl
  have hc := BitVec.toInt_eq_toNat_cond (hf32 v c).toBitVec
  rw [key] at hc
  rw [e, hc]
  split <;> omega
theorem vN_snoc (L : List Int32) (c : Int32) : vN (L ++ [c]) = vN L * 256 + c.toInt.toNat := by unfold vN; rw [List.foldl_append]; rfl
theorem okB_snoc {L : List Int32} {c : Int32} (h : okB (L ++ [c])) : okB L ∧ 0 < c.toInt ∧ c.toInt < 128 := ⟨fun x hx => h x (List.mem_append_left _ hx), h c (List.mem_append_right _ (List.mem_singleton.mpr rfl))⟩
theorem vN_lt : ∀ (n : Nat) (L : List Int32), L.length = n → okB L → vN L < 128 * 256 ^ (n - 1) ∧ (n = 0 → vN L = 0) := by
  intro n
  induction n with
  | zero =>
    intro L hl _
    have : L = [] := List.eq_nil_of_length_eq_zero hl
    subst this
    exact ⟨by decide, fun _ => rfl⟩
  | succ n ih =>
    intro L hl hb
    rcases List.eq_nil_or_concat L with e | ⟨M, c, e⟩
    · rw [e] at hl; cases hl
    · rw [List.concat_eq_append] at e
      subst e
      obtain ⟨b1, b2, b3⟩ := okB_snoc hb
      rw [List.length_append] at hl
      have hm : M.length = n := by simpa using hl
      obtain ⟨i1, i2⟩ := ih M hm b1
      refine ⟨?_, fun q => absurd q (by omega)⟩
      rw [vN_snoc]
      cases n with
      | zero => rw [i2 rfl]; omega
      | succ n =>
        have e1 : 256 ^ (n + 1 + 1 - 1) = 256 * 256 ^ (n + 1 - 1) := by
          rw [show n + 1 + 1 - 1 = (n + 1 - 1) + 1 by omega, Nat.pow_succ, Nat.mul_comm]
        rw [e1]
        generalize 256 ^ (n + 1 - 1) = z at *
        omega
theorem vN_inj : ∀ (n : Nat) (L M : List Int32), L.length = n → okB L → okB M → vN L = vN M → L = M := by
  intro n
  induction n with
  | zero =>
    intro L M hl _ hM he
    have : L = [] := List.eq_nil_of_length_eq_zero hl
    subst this
    rcases List.eq_nil_or_concat M with e | ⟨M', c, e⟩
    · exact e.symm
    · rw [List.concat_eq_append] at e
      subst e
      obtain ⟨b1, b2, b3⟩ := okB_snoc hM
      rw [vN_snoc] at he
      have : vN ([] : List Int32) = 0 := rfl
      omega
  | succ n ih =>
    intro L M hl hL hM he
    rcases List.eq_nil_or_concat L with e | ⟨L', c, e⟩
    · rw [e] at hl; cases hl
    · rw [List.concat_eq_append] at e
      subst e
      obtain ⟨b1, b2, b3⟩ := okB_snoc hL
      rw [List.length_append] at hl
      have hm : L'.length = n := by simpa using hl
      rw [vN_snoc] at he
      rcases List.eq_nil_or_concat M with e | ⟨M', d, e⟩
      · rw [e] at he
        have : vN ([] : List Int32) = 0 := rfl
        omega
      · rw [List.concat_eq_append] at e
        subst e
        obtain ⟨d1, d2, d3⟩ := okB_snoc hM
        rw [vN_snoc] at he
        have hcd : c = d := tI_eq.mpr (by omega)
        rw [ih L' M' hm b1 d1 (by omega), hcd]
theorem pkL_snoc (L : List Int32) (c : Int32) : pkL (L ++ [c]) = r_half (pkL L) c := by unfold pkL; rw [List.foldl_append]; rfl
theorem pkS_snoc (L : List Int32) (c : Int32) : pkS (L ++ [c]) = hf32 (pkS L) c := by unfold pkS; rw [List.foldl_append]; rfl
theorem pkL_val : ∀ (n : Nat) (L : List Int32), L.length = n → n ≤ 8 → okB L → (pkL L).toInt = (vN L : Int) := by
  intro n
  induction n with
  | zero =>
    intro L hl _ _
    have : L = [] := List.eq_nil_of_length_eq_zero hl
    subst this
    rfl
  | succ n ih =>
    intro L hl hn hb
    rcases List.eq_nil_or_concat L with e | ⟨M, c, e⟩
    · rw [e] at hl; cases hl
    · rw [List.concat_eq_append] at e
      subst e
      obtain ⟨b1, b2, b3⟩ := okB_snoc hb
      rw [List.length_append] at hl
      have hm : M.length = n := by simpa using hl
      have i1 := ih M hm (by omega) b1
      obtain ⟨i2, i3⟩ := vN_lt n M hm b1
      have hlt : vN M < 36028797018963968 := by
        have : 256 ^ (n - 1) ≤ 256 ^ 6 := Nat.pow_le_pow_right (by decide) (by omega)
        have e6 : (256 : Nat) ^ 6 = 281474976710656 := by decide
        omega
      rw [pkL_snoc, half_val (by omega) (by omega) (by omega) (by omega), i1, vN_snoc]
      omega
theorem pkS_val : ∀ (n : Nat) (L : List Int32), L.length = n → n ≤ 4 → okB L → (pkS L).toInt = (vN L : Int) := by
  intro n
  induction n with
  | zero =>
    intro L hl _ _
    have : L = [] := List.eq_nil_of_length_eq_zero hl
    subst this
    rfl
  | succ n ih =>
    intro L hl hn hb
    rcases List.eq_nil_or_concat L with e | ⟨M, c, e⟩
    · rw [e] at hl; cases hl
    · rw [List.concat_eq_append] at e
      subst e
      obtain ⟨b1, b2, b3⟩ := okB_snoc hb
      rw [List.length_append] at hl
      have hm : M.length = n := by simpa using hl
      have i1 := ih M hm (by omega) b1
      obtain ⟨i2, i3⟩ := vN_lt n M hm b1
      have hlt : vN M < 8388608 := by
        have : 256 ^ (n - 1) ≤ 256 ^ 2 := Nat.pow_le_pow_right (by decide) (by omega)
        have e6 : (256 : Nat) ^ 2 = 65536 := by decide
        omega
      rw [pkS_snoc, hf32_val (by omega) (by omega) (by omega) (by omega), i1, vN_snoc]
      omega
theorem pkL_inj {L M : List Int32} (h1 : L.length ≤ 8) (h2 : M.length ≤ 8) (hL : okB L) (hM : okB M) (e : pkL L = pkL M) : L = M := by
  refine vN_inj _ L M rfl hL hM ?_
  have a1 := pkL_val _ L rfl h1 hL
  have a2 := pkL_val _ M rfl h2 hM
  rw [e] at a1
  omega
theorem pkS_inj {L M : List Int32} (h1 : L.length ≤ 4) (h2 : M.length ≤ 4) (hL : okB L) (hM : okB M) (e : pkS L = pkS M) : L = M := by
  refine vN_inj _ L M rfl hL hM ?_
  have a1 := pkS_val _ L rfl h1 hL
  have a2 := pkS_val _ M rfl h2 hM
  rw [e] at a1
  omega
theorem okB_take {L : List Int32} (h : okB L) (n : Nat) : okB (L.take n) := fun x hx => h x (List.mem_of_mem_take hx)
theorem okB_drop {L : List Int32} (h : okB L) (n : Nat) : okB (L.drop n) := fun x hx => h x (List.mem_of_mem_drop hx)
/-- one NAME: packed 8 + 4 by the class, 6 + 6 by the reference -/
def NmL (L : List Int32) (hd : Int64) (tl : Int32) (a b : Int64) : Prop := L.length ≤ 12 ∧ okB L ∧ hd = pkL (L.take 8) ∧ tl = pkS (L.drop 8) ∧ a = pkL (L.take 6) ∧ b = pkL (L.drop 6)
def NmR (hd : Int64) (tl : Int32) (a b : Int64) : Prop := ∃ L, NmL L hd tl a b
theorem NmR_eq {h1 h2 : Int64} {t1 t2 : Int32} {a1 a2 b1 b2 : Int64} (n1 : NmR h1 t1 a1 b1) (n2 : NmR h2 t2 a2 b2) : (h1 = h2 ∧ t1 = t2) ↔ (a1 = a2 ∧ b1 = b2) := by
  obtain ⟨L, l1, l2, l3, l4, l5, l6⟩ := n1
  obtain ⟨M, m1, m2, m3, m4, m5, m6⟩ := n2
  constructor
  · rintro ⟨e1, e2⟩
    rw [l3, m3] at e1
    rw [l4, m4] at e2
    have d1 := pkL_inj (by rw [List.length_take]; omega) (by rw [List.length_take]; omega) (okB_take l2 8) (okB_take m2 8) e1
    have d2 := pkS_inj (by rw [List.length_drop]; omega) (by rw [List.length_drop]; omega) (okB_drop l2 8) (okB_drop m2 8) e2
    have : L = M := by rw [← List.take_append_drop 8 L, ← List.take_append_drop 8 M, d1, d2]
    subst this
    exact ⟨l5.trans m5.symm, l6.trans m6.symm⟩
  · rintro ⟨e1, e2⟩
    rw [l5, m5] at e1
    rw [l6, m6] at e2
    have d1 := pkL_inj (by rw [List.length_take]; omega) (by rw [List.length_take]; omega) (okB_take l2 6) (okB_take m2 6) e1
    have d2 := pkL_inj (by rw [List.length_drop]; omega) (by rw [List.length_drop]; omega) (okB_drop l2 6) (okB_drop m2 6) e2
    have : L = M := by rw [← List.take_append_drop 6 L, ← List.take_append_drop 6 M, d1, d2]
    subst this
    exact ⟨l3.trans m3.symm, l4.trans m4.symm⟩
