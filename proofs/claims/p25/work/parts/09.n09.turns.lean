/-! how many 0s ahead, and turns -/
theorem q_bitN (a : Int64) {j : Nat} (h : j < 64) : n_bit a (nI j) = if a.toBitVec.getLsbD j then 1 else 0 := by
  apply Int64.toBitVec_inj.mp
  apply BitVec.eq_of_toNat_eq
  have e : (n_bit a (nI j)).toBitVec.toNat = a.toBitVec.toNat / 2 ^ j % 2 := by
    unfold n_bit
    rw [Int64.toBitVec_and, BitVec.toNat_and, q_ushrN a h, show (1 : Int64).toBitVec.toNat = 2 ^ 1 - 1 by decide, Nat.and_two_pow_sub_one_eq_mod]
  rw [e]
  have t : a.toBitVec.getLsbD j = decide (a.toBitVec.toNat / 2 ^ j % 2 = 1) := by
    rw [BitVec.getLsbD, Nat.testBit_eq_decide_div_mod_eq]
  rw [t]
  by_cases q : a.toBitVec.toNat / 2 ^ j % 2 = 1
  · simp [q]
  · have : a.toBitVec.toNat / 2 ^ j % 2 = 0 := by omega
    simp [this]
def q_lz (a : Int64) : Nat → Nat
  | 0 => 0
  | k + 1 => if a.toBitVec.getLsbD k then 0 else q_lz a k + 1
theorem q_lzB (a : Int64) : ∀ k : Nat, q_lz a k ≤ k
  | 0 => Nat.le_refl 0
  | k + 1 => by
    unfold q_lz
    have := q_lzB a k
    split <;> omega
theorem q_ah (a : Int64) : ∀ k : Nat, k ≤ 64 → r_ah a k = nI (q_lz a k)
  | 0, _ => rfl
  | k + 1, h => by
    unfold r_ah q_lz
    rw [q_bitN a (show k < 64 by omega), q_ah a k (by omega)]
    by_cases q : a.toBitVec.getLsbD k = true
    · simp [q]; rfl
    · simp only [q]
      rw [if_neg (by decide), if_neg (by decide), nI_1]
theorem q_ld (a : Int64) (B : Nat) (hB : B ≤ 64) : ∀ d k : Nat, k + d = B → n_ld a B d k = k + q_lz a d
  | 0, k, _ => rfl
  | d + 1, k, h => by
    unfold n_ld q_lz
    have e : nI B - 1 - nI k = nI d := by
      rw [show (1 : Int32) = nI 1 from rfl, pk_sub (by omega), pk_sub (by omega), show B - 1 - k = d by omega]
    rw [e, q_bitN a (show d < 64 by omega), q_ld a B hB d (k + 1) (by omega)]
    by_cases q : a.toBitVec.getLsbD d = true
    · simp [q]
    · simp only [q]
      rw [if_pos (by decide), if_neg (by decide)]
      omega
theorem q_lead (a : Int64) (B : Nat) (hB : B ≤ 64) : nI (n_ld a B B 0) = r_ah a B := by
  rw [q_ld a B hB B 0 (Nat.zero_add B), Nat.zero_add, q_ah a B hB]
/-! turns -/
theorem q_t1 (v : Int64) (B : Nat) (hB : 0 < B) (hB2 : B ≤ 64) {i : Nat} (hi : i < B) : (r_t1 (nI B) v).toBitVec.getLsbD i = v.toBitVec.getLsbD ((i + B - 1) % B) := by
  have e1 : nI B - 1 = nI (B - 1) := by
    rw [show (1 : Int32) = nI 1 from rfl, pk_sub (by omega)]
  have e2 : ((v.toUInt64 >>> ((nI B - 1).toInt64.toUInt64 &&& Int64.toUInt64 63)).toInt64 &&& 1) = if v.toBitVec.getLsbD (B - 1) then 1 else 0 := by
    rw [e1]
    exact q_bitN v (show B - 1 < 64 by omega)
  unfold r_t1
  rw [e2, show (1 : Int32) = nI 1 from rfl, Int64.toBitVec_or, BitVec.getLsbD_or, Int64.toBitVec_shiftLeft, BitVec.shiftLeft_eq', q_s6 1 (by decide), BitVec.getLsbD_shiftLeft]
  by_cases h0 : i = 0
  · subst h0
    have : (0 + B - 1) % B = B - 1 := by rw [Nat.mod_eq_of_lt] <;> omega
    rw [this]
    cases v.toBitVec.getLsbD (B - 1) <;> simp
  · have h1 : (i + B - 1) % B = i - 1 := by
      rw [show i + B - 1 = (i - 1) + B by omega, Nat.add_mod_right, Nat.mod_eq_of_lt (by omega)]
    rw [h1]
    have h2 : (if v.toBitVec.getLsbD (B - 1) = true then (1 : Int64) else 0).toBitVec.getLsbD i = false := by
      cases v.toBitVec.getLsbD (B - 1)
      · simp
      · simp [h0]
    rw [h2]
    simp
    omega
theorem q_tn (v : Int64) (B : Nat) (hB : 0 < B) (hB2 : B ≤ 64) : ∀ (U : Nat), U ≤ B → ∀ {i : Nat}, i < B → (r_tn (nI B) v U).toBitVec.getLsbD i = v.toBitVec.getLsbD ((i + B - U) % B)
  | 0, _, i, hi => by
    show v.toBitVec.getLsbD i = _
    rw [show (i + B - 0) % B = i by rw [Nat.sub_zero, Nat.add_mod_right, Nat.mod_eq_of_lt hi]]
  | U + 1, hU, i, hi => by
    show (r_t1 (nI B) (r_tn (nI B) v U)).toBitVec.getLsbD i = _
    rw [q_t1 _ B hB hB2 hi, q_tn v B hB hB2 U (by omega) (Nat.mod_lt _ hB)]
    congr 1
    by_cases h0 : i = 0
    · subst h0
      have e : (0 + B - 1) % B = B - 1 := by rw [Nat.mod_eq_of_lt] <;> omega
      rw [e]
      rw [show B - 1 + B - U = (B - 1 - U) + B by omega, Nat.add_mod_right]
      congr 1
      omega
    · have h1 : (i + B - 1) % B = i - 1 := by
        rw [show i + B - 1 = (i - 1) + B by omega, Nat.add_mod_right, Nat.mod_eq_of_lt (by omega)]
      rw [h1]
      congr 1
      omega
/-- the class's turn of an int by a place that counts like U -/
theorem q_lowB (a : Int64) {i : Nat} (hi : i < 32) : a.toInt32.toBitVec.getLsbD i = a.toBitVec.getLsbD i := by
  rw [Int64.toBitVec_toInt32, BitVec.signExtend_eq_setWidth_of_le _ (by decide), BitVec.getLsbD_setWidth]
  simp [hi]
theorem q_neg5 : ∀ U : Nat, U < 32 → (((-(nI U)).toUInt32 &&& Int32.toUInt32 31).toBitVec % 32).toNat = (32 - U) % 32 := by decide +kernel
theorem q_neg6 : ∀ U : Nat, U < 64 → (((-(nI U)).toInt64.toUInt64 &&& Int64.toUInt64 63).toBitVec % 64).toNat = (64 - U) % 64 := by decide +kernel
theorem q_turnB (x k : Int32) {U : Nat} (hU : U < 32) (h1 : ((k &&& 31).toBitVec.smod 32).toNat = U) (h2 : (((-k).toUInt32 &&& Int32.toUInt32 31).toBitVec % 32).toNat = (32 - U) % 32) {i : Nat} (hi : i < 32) : (n_turn x k).toBitVec.getLsbD i = x.toBitVec.getLsbD ((i + 32 - U) % 32) := by
  unfold n_turn
  rw [Int32.toBitVec_or, BitVec.getLsbD_or, Int32.toBitVec_shiftLeft, BitVec.shiftLeft_eq', h1, BitVec.getLsbD_shiftLeft]
  have e : (x.toUInt32 >>> ((-k).toUInt32 &&& Int32.toUInt32 31)).toInt32.toBitVec = x.toBitVec >>> ((32 - U) % 32) := by
    show (x.toUInt32 >>> ((-k).toUInt32 &&& Int32.toUInt32 31)).toBitVec = _
    rw [UInt32.toBitVec_shiftRight, BitVec.ushiftRight_eq', h2]
    rfl
  rw [e, BitVec.getLsbD_ushiftRight]
  by_cases h0 : U = 0
  · subst h0
    have e1 : (i + 32 - 0) % 32 = i := by omega
    have e2 : (32 - 0) % 32 + i = i := by omega
    rw [e1, e2]
    simp [hi]
  · have e2 : (32 - U) % 32 = 32 - U := by omega
    rw [e2]
    by_cases hlt : i < U
    · have e1 : (i + 32 - U) % 32 = 32 - U + i := by omega
      rw [e1]
      simp [hlt]
    · have e1 : (i + 32 - U) % 32 = i - U := by omega
      have e3 : x.toBitVec.getLsbD (32 - U + i) = false := BitVec.getLsbD_of_ge _ _ (by omega)
      rw [e1, e3]
      simp [hi, hlt]
theorem q_turnWB (x : Int64) (k : Int32) {U : Nat} (hU : U < 64) (h1 : ((k.toInt64 &&& 63).toBitVec.smod 64).toNat = U) (h2 : (((-k).toInt64.toUInt64 &&& Int64.toUInt64 63).toBitVec % 64).toNat = (64 - U) % 64) {i : Nat} (hi : i < 64) : (n_turnW x k).toBitVec.getLsbD i = x.toBitVec.getLsbD ((i + 64 - U) % 64) := by
  unfold n_turnW
  rw [Int64.toBitVec_or, BitVec.getLsbD_or, Int64.toBitVec_shiftLeft, BitVec.shiftLeft_eq', h1, BitVec.getLsbD_shiftLeft]
  have e : (x.toUInt64 >>> ((-k).toInt64.toUInt64 &&& Int64.toUInt64 63)).toInt64.toBitVec = x.toBitVec >>> ((64 - U) % 64) := by
    show (x.toUInt64 >>> ((-k).toInt64.toUInt64 &&& Int64.toUInt64 63)).toBitVec = _
    rw [UInt64.toBitVec_shiftRight, BitVec.ushiftRight_eq', h2]
    rfl
  rw [e, BitVec.getLsbD_ushiftRight]
  by_cases h0 : U = 0
  · subst h0
    have e1 : (i + 64 - 0) % 64 = i := by omega
    have e2 : (64 - 0) % 64 + i = i := by omega
    rw [e1, e2]
    simp [hi]
  · have e2 : (64 - U) % 64 = 64 - U := by omega
    rw [e2]
    by_cases hlt : i < U
    · have e1 : (i + 64 - U) % 64 = 64 - U + i := by omega
      rw [e1]
      simp [hlt]
    · have e1 : (i + 64 - U) % 64 = i - U := by omega
      have e3 : x.toBitVec.getLsbD (64 - U + i) = false := BitVec.getLsbD_of_ge _ _ (by omega)
      rw [e1, e3]
      simp [hi, hlt]
theorem q_turn (a : Int64) (k : Int32) {U : Nat} (hU : U < 32) (h1 : ((k &&& 31).toBitVec.smod 32).toNat = U) (h2 : (((-k).toUInt32 &&& Int32.toUInt32 31).toBitVec % 32).toNat = (32 - U) % 32) : n_turn a.toInt32 k = (r_tn (nI 32) a U).toInt32 := by
  apply Int32.toBitVec_inj.mp
  apply BitVec.eq_of_getLsbD_eq
  intro i hi
  have hi : i < 32 := hi
  rw [q_turnB _ _ hU h1 h2 hi, q_lowB _ hi, q_tn a 32 (by decide) (by decide) U (by omega) hi, q_lowB _ (Nat.mod_lt _ (by decide))]
theorem q_turnW (a : Int64) (k : Int32) {U : Nat} (hU : U < 64) (h1 : ((k.toInt64 &&& 63).toBitVec.smod 64).toNat = U) (h2 : (((-k).toInt64.toUInt64 &&& Int64.toUInt64 63).toBitVec % 64).toNat = (64 - U) % 64) : n_turnW a k = r_tn (nI 64) a U := by
  apply Int64.toBitVec_inj.mp
  apply BitVec.eq_of_getLsbD_eq
  intro i hi
  have hi : i < 64 := hi
  rw [q_turnWB _ _ hU h1 h2 hi, q_tn a 64 (by decide) (by decide) U (by omega) hi]
