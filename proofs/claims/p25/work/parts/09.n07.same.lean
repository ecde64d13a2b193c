/-! the class's numbers and the reference's are the same -/
theorem q_and (v : Int64) (k : Nat) (m : Int64) (hk : k ≤ 32) (hm : m.toBitVec.toNat = 2 ^ k - 1) : (v &&& m).toInt = ((v.toBitVec.toNat % 2 ^ k : Nat) : Int) := by
  have e1 : (v &&& m).toBitVec.toNat = v.toBitVec.toNat % 2 ^ k := by
    rw [Int64.toBitVec_and, BitVec.toNat_and, hm, Nat.and_two_pow_sub_one_eq_mod]
  have h2 : v.toBitVec.toNat % 2 ^ k < 2 ^ 32 := Nat.lt_of_lt_of_le (Nat.mod_lt _ (Nat.two_pow_pos k)) (Nat.pow_le_pow_right (by decide) hk)
  show (v &&& m).toBitVec.toInt = _
  rw [BitVec.toInt_eq_toNat_of_lt (by rw [e1]; omega), e1]
theorem q_nat (v : Int64) : v.toInt = if 2 * v.toBitVec.toNat < 18446744073709551616 then (v.toBitVec.toNat : Int) else (v.toBitVec.toNat : Int) - 18446744073709551616 := by
  show v.toBitVec.toInt = _
  rw [BitVec.toInt_eq_toNat_cond]
  rfl
theorem q_lt (v : Int64) : v.toBitVec.toNat < 18446744073709551616 := v.toBitVec.isLt
theorem q_cut0 (v : Int64) : v.toInt32.toInt8.toInt32.toInt64 = if v &&& 255 ≤ 127 then v &&& 255 else (v &&& 255) - 256 := by
  have e := q_and v 8 255 (by decide) (by decide)
  have n := q_nat v
  have hl := q_lt v
  have l : (v.toInt32.toInt8.toInt32.toInt64).toInt = v.toInt.bmod 256 := by
    simp only [Int32.toInt_toInt64, Int8.toInt_toInt32, Int32.toInt_toInt8, Int64.toInt_toInt32]
    exact Int.bmod_bmod_of_dvd (by decide)
  have h127 : (127 : Int64).toInt = 127 := by decide
  have h256 : (256 : Int64).toInt = 256 := by decide
  apply Int64.toInt_inj.mp
  rw [l, Int.bmod_def]
  by_cases h : v &&& 255 ≤ 127
  · have h1 := Int64.le_iff_toInt_le.mp h
    rw [if_pos h, e]
    rw [e, h127] at h1
    split at n <;> split <;> omega
  · have h1 := mt Int64.le_iff_toInt_le.mpr h
    rw [if_neg h, Int64.toInt_sub, e]
    rw [e, h127] at h1
    rw [h256, Int.bmod_def]
    split at n <;> split <;> split <;> omega
theorem q_cut1 (v : Int64) : v.toInt32.toInt16.toInt32.toInt64 = if v &&& 65535 ≤ 32767 then v &&& 65535 else (v &&& 65535) - 65536 := by
  have e := q_and v 16 65535 (by decide) (by decide)
  have n := q_nat v
  have hl := q_lt v
  have l : (v.toInt32.toInt16.toInt32.toInt64).toInt = v.toInt.bmod 65536 := by
    simp only [Int32.toInt_toInt64, Int16.toInt_toInt32, Int32.toInt_toInt16, Int64.toInt_toInt32]
    exact Int.bmod_bmod_of_dvd (by decide)
  have h127 : (32767 : Int64).toInt = 32767 := by decide
  have h256 : (65536 : Int64).toInt = 65536 := by decide
  apply Int64.toInt_inj.mp
  rw [l, Int.bmod_def]
  by_cases h : v &&& 65535 ≤ 32767
  · have h1 := Int64.le_iff_toInt_le.mp h
    rw [if_pos h, e]
    rw [e, h127] at h1
    split at n <;> split <;> omega
  · have h1 := mt Int64.le_iff_toInt_le.mpr h
    rw [if_neg h, Int64.toInt_sub, e]
    rw [e, h127] at h1
    rw [h256, Int.bmod_def]
    split at n <;> split <;> split <;> omega
theorem q_cut3 (v : Int64) : v.toInt32.toInt64 = if v &&& 4294967295 ≤ 2147483647 then v &&& 4294967295 else (v &&& 4294967295) - 4294967296 := by
  have e := q_and v 32 4294967295 (by decide) (by decide)
  have n := q_nat v
  have hl := q_lt v
  have l : (v.toInt32.toInt64).toInt = v.toInt.bmod 4294967296 := by
    simp only [Int32.toInt_toInt64, Int64.toInt_toInt32]
  have h127 : (2147483647 : Int64).toInt = 2147483647 := by decide
  have h256 : (4294967296 : Int64).toInt = 4294967296 := by decide
  apply Int64.toInt_inj.mp
  rw [l, Int.bmod_def]
  by_cases h : v &&& 4294967295 ≤ 2147483647
  · have h1 := Int64.le_iff_toInt_le.mp h
    rw [if_pos h, e]
    rw [e, h127] at h1
    split at n <;> split <;> omega
  · have h1 := mt Int64.le_iff_toInt_le.mpr h
    rw [if_neg h, Int64.toInt_sub, e]
    rw [e, h127] at h1
    rw [h256, Int.bmod_def]
    split at n <;> split <;> split <;> omega
theorem q_cut (k : Int32) (v : Int64) : r_cut k v = n_cut k v := by
  unfold r_cut n_cut
  rw [q_cut0, q_cut1, q_cut3]
theorem q_worked0 (v : Int64) : r_worked 0 v = v.toInt32.toInt64 := by
  unfold r_worked
  rw [if_pos rfl, q_cut]
  rfl
theorem q_worked1 {w : Int32} (h : ¬ w = 0) (v : Int64) : r_worked w v = v := by
  unfold r_worked
  rw [if_neg h]
/-- an int, carried as a long -/
def q_I (a : Int64) : Prop := a.toInt32.toInt64 = a
theorem q_I_iff (a : Int64) : q_I a ↔ -2147483648 ≤ a.toInt ∧ a.toInt ≤ 2147483647 := by
  unfold q_I
  rw [← Int64.toInt_inj]
  simp only [Int32.toInt_toInt64, Int64.toInt_toInt32]
  rw [Int.bmod_def]
  constructor
  · intro h
    split at h <;> omega
  · intro h
    split <;> omega
theorem q_I_cut {k : Int32} (h : ¬ k = 4) (h0 : n_isKind k = 1) (v : Int64) : q_I (n_cut k v) := by
  have hk : k = 0 ∨ k = 1 ∨ k = 2 ∨ k = 3 := by
    unfold n_isKind at h0
    by_cases a : k < 0
    · rw [if_pos a] at h0; exact absurd h0 (by decide)
    by_cases b : 4 < k
    · rw [if_neg a, if_pos b] at h0; exact absurd h0 (by decide)
    have a1 := mt Int32.lt_iff_toInt_lt.mpr a
    have b1 := mt Int32.lt_iff_toInt_lt.mpr b
    have c1 : ¬ k.toInt = 4 := fun q => h (Int32.toInt_inj.mp (q.trans (by decide)))
    have z : (0 : Int32).toInt = 0 := by decide
    have f : (4 : Int32).toInt = 4 := by decide
    rw [z] at a1
    rw [f] at b1
    rcases (show k.toInt = 0 ∨ k.toInt = 1 ∨ k.toInt = 2 ∨ k.toInt = 3 by omega) with q | q | q | q
    · exact Or.inl (Int32.toInt_inj.mp (q.trans (by decide)))
    · exact Or.inr (Or.inl (Int32.toInt_inj.mp (q.trans (by decide))))
    · exact Or.inr (Or.inr (Or.inl (Int32.toInt_inj.mp (q.trans (by decide)))))
    · exact Or.inr (Or.inr (Or.inr (Int32.toInt_inj.mp (q.trans (by decide)))))
  rcases hk with rfl | rfl | rfl | rfl
  · show q_I (v.toInt32.toInt8.toInt32.toInt64)
    simp [q_I]
  · show q_I (v.toInt32.toInt16.toInt32.toInt64)
    simp [q_I]
  · show q_I (v &&& 65535)
    rw [q_I_iff, q_and v 16 65535 (by decide) (by decide)]
    have := Nat.mod_lt v.toBitVec.toNat (show 2 ^ 16 > 0 by decide)
    omega
  · show q_I (v.toInt32.toInt64)
    simp [q_I]
/-- / and % -/
theorem q_divm1 (a : Int64) : a / (-1) = -a := by
  apply Int64.toInt_inj.mp
  have h : (-1 : Int64).toInt = -1 := by decide
  rw [Int64.toInt_div, h, Int64.toInt_neg a]
  congr 1
  rw [Int.tdiv_neg, Int.tdiv_one]
theorem q_div (a b : Int64) : (if b = -1 then -a else a / b) = a / b := by
  by_cases h : b = -1
  · rw [if_pos h, h, q_divm1]
  · rw [if_neg h]
theorem q_rem (a b : Int64) : (if b = -1 then 0 else a - a / b * b) = a - a / b * b := by
  by_cases h : b = -1
  · rw [if_pos h, h, q_divm1]
    apply Int64.toInt_inj.mp
    rw [show -a * (-1) = a by rw [Int64.mul_neg, Int64.neg_mul, Int64.neg_neg, Int64.mul_one], Int64.sub_self]
  · rw [if_neg h]
theorem q_rng (v : Int64) : -9223372036854775808 ≤ v.toInt ∧ v.toInt ≤ 9223372036854775807 := by
  have n := q_nat v
  have hl := q_lt v
  split at n <;> omega
theorem q_tm {a : Int} (h : a ≤ 0) (b : Int) : a.tmod b ≤ 0 := by
  have := Int.tmod_nonneg b (show 0 ≤ -a by omega)
  rw [Int.neg_tmod] at this
  omega
theorem q_remT {a b : Int64} (h : ¬ b = -1) : (a - a / b * b).toInt = a.toInt.tmod b.toInt := by
  have e : (a / b).toInt = a.toInt.tdiv b.toInt := Int64.toInt_div_of_ne_right a b h
  have e2 : a.toInt.tmod b.toInt = a.toInt - a.toInt.tdiv b.toInt * b.toInt := by
    have := Int.tmod_add_tdiv_mul a.toInt b.toInt
    omega
  have r := q_rng a
  have r3 : a.toInt ≤ 0 → a.toInt.tmod b.toInt ≤ 0 := fun h => q_tm h _
  have t1 : (a.toInt.tmod b.toInt).natAbs ≤ a.toInt.natAbs := by
    rw [Int.natAbs_tmod]
    exact Nat.mod_le _ _
  have c : (a - a / b * b).toInt = (a.toInt - a.toInt.tdiv b.toInt * b.toInt).bmod (2 ^ 64) := by
    rw [Int64.toInt_sub, Int64.toInt_mul, e, Int.sub_bmod_bmod]
  rw [c, ← e2]
  rw [Int.bmod_def]
  split <;> omega
theorem q_I_rem {a b : Int64} (ha : q_I a) (h : ¬ b = -1) : q_I (a - a / b * b) := by
  rw [q_I_iff] at ha ⊢
  rw [q_remT h]
  have t1 : (a.toInt.tmod b.toInt).natAbs ≤ a.toInt.natAbs := by
    rw [Int.natAbs_tmod]
    exact Nat.mod_le _ _
  by_cases hs : a.toInt = -2147483648
  · have : ¬ a.toInt.tmod b.toInt = 2147483648 := by
      intro q
      have := q_tm (show a.toInt ≤ 0 by omega) b.toInt
      omega
    omega
  · omega
theorem q_I_and {a b : Int64} (ha : q_I a) (hb : q_I b) : q_I (a &&& b) := by
  unfold q_I at *
  rw [Int64.toInt32_and, Int32.toInt64_and, ha, hb]
theorem q_I_or {a b : Int64} (ha : q_I a) (hb : q_I b) : q_I (a ||| b) := by
  unfold q_I at *
  rw [Int64.toInt32_or, Int32.toInt64_or, ha, hb]
theorem q_I_xor {a b : Int64} (ha : q_I a) (hb : q_I b) : q_I (a ^^^ b) := by
  unfold q_I at *
  rw [Int64.toInt32_xor, Int32.toInt64_xor, ha, hb]
