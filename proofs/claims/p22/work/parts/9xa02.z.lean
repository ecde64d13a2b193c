/-! the class's numbers and the reference's are the same -/
theorem q_worked0 (v : Int64) : r_worked 0 v = v.toInt32.toInt64 := by
  unfold r_worked
  rw [if_pos rfl, q_cut]
  rfl
theorem q_worked1 {w : Int32} (h : ¬ w = 0) (v : Int64) : r_worked w v = v := by
  unfold r_worked
  rw [if_neg h]
/-- an int, carried as a long -/
def q_I (a : Int64) : Prop := a.toInt32.toInt64 = a
theorem q_I_iff (a : Int64) : q_I a ↔ -2147483648 ≤ a.toInt ∧ a.toInt ≤ 2147483647 := by
  unfold q_I
  rw [← Int64.toInt_inj]
  simp only [Int32.toInt_toInt64, Int64.toInt_toInt32]
  rw [Int.bmod_def]
  constructor
  · intro h
    split at h <;> omega
  · intro h
    split <;> omega
theorem q_I_cut {k : Int32} (h : ¬ k = 4) (h0 : n_isKind k = 1) (v : Int64) : q_I (n_cut k v) := by
  have hk : k = 0 ∨ k = 1 ∨ k = 2 ∨ k = 3 := by
    unfold n_isKind at h0
    by_cases a : k < 0
    · rw [if_pos a] at h0; exact absurd h0 (by decide)
    by_cases b : 4 < k
    · rw [if_neg a, if_pos b] at h0; exact absurd h0 (by decide)
    have a1 := mt Int32.lt_iff_toInt_lt.mpr a
    have b1 := mt Int32.lt_iff_toInt_lt.mpr b
    have c1 : ¬ k.toInt = 4 := fun q => h (Int32.toInt_inj.mp (q.trans (by decide)))
    have z : (0 : Int32).toInt = 0 := by decide
    have f : (4 : Int32).toInt = 4 := by decide
    rw [z] at a1
    rw [f] at b1
    rcases (show k.toInt = 0 ∨ k.toInt = 1 ∨ k.toInt = 2 ∨ k.toInt = 3 by omega) with q | q | q | q
    · exact Or.inl (Int32.toInt_inj.mp (q.trans (by decide)))
    · exact Or.inr (Or.inl (Int32.toInt_inj.mp (q.trans (by decide))))
    · exact Or.inr (Or.inr (Or.inl (Int32.toInt_inj.mp (q.trans (by decide)))))
    · exact Or.inr (Or.inr (Or.inr (Int32.toInt_inj.mp (q.trans (by decide)))))
  rcases hk with rfl | rfl | rfl | rfl
  · show q_I (v.toInt32.toInt8.toInt32.toInt64)
    simp [q_I]
  · show q_I (v.toInt32.toInt16.toInt32.toInt64)
    simp [q_I]
  · show q_I (v &&& 65535)
    rw [q_I_iff, q_and v 16 65535 (by decide) (by decide)]
    have := Nat.mod_lt v.toBitVec.toNat (show 2 ^ 16 > 0 by decide)
    omega
  · show q_I (v.toInt32.toInt64)
    simp [q_I]
/-- / and % -/
theorem q_divm1 (a : Int64) : a / (-1) = -a := by
  apply Int64.toInt_inj.mp
  have h : (-1 : Int64).toInt = -1 := by decide
  rw [Int64.toInt_div, h, Int64.toInt_neg a]
  congr 1
  rw [Int.tdiv_neg, Int.tdiv_one]
theorem q_div (a b : Int64) : (if b = -1 then -a else a / b) = a / b := by
  by_cases h : b = -1
  · rw [if_pos h, h, q_divm1]
  · rw [if_neg h]
theorem q_rem (a b : Int64) : (if b = -1 then 0 else a - a / b * b) = a - a / b * b := by
  by_cases h : b = -1
  · rw [if_pos h, h, q_divm1]
    apply Int64.toInt_inj.mp
    rw [show -a * (-1) = a by rw [Int64.mul_neg, Int64.neg_mul, Int64.neg_neg, Int64.mul_one], Int64.sub_self]
  · rw [if_neg h]
theorem q_rng (v : Int64) : -9223372036854775808 ≤ v.toInt ∧ v.toInt ≤ 9223372036854775807 := by
  have n := q_nat v
  have hl := q_lt v
  split at n <;> omega
theorem q_tm {a : Int} (h : a ≤ 0) (b : Int) : a.tmod b ≤ 0 := by
  have := Int.tmod_nonneg b (show 0 ≤ -a by omega)
  rw [Int.neg_tmod] at this
  omega
theorem q_remT {a b : Int64} (h : ¬ b = -1) : (a - a / b * b).toInt = a.toInt.tmod b.toInt := by
  have e : (a / b).toInt = a.toInt.tdiv b.toInt := Int64.toInt_div_of_ne_right a b h
  have e2 : a.toInt.tmod b.toInt = a.toInt - a.toInt.tdiv b.toInt * b.toInt := by
    have := Int.tmod_add_tdiv_mul a.toInt b.toInt
    omega
  have r := q_rng a
  have r3 : a.toInt ≤ 0 → a.toInt.tmod b.toInt ≤ 0 := fun h => q_tm h _
  have t1 : (a.toInt.tmod b.toInt).natAbs ≤ a.toInt.natAbs := by
    rw [Int.natAbs_tmod]
    exact Nat.mod_le _ _
  have c : (a - a / b * b).toInt = (a.toInt - a.toInt.tdiv b.toInt * b.toInt).bmod (2 ^ 64) := by
    rw [Int64.toInt_sub, Int64.toInt_mul, e, Int.sub_bmod_bmod]
  rw [c, ← e2]
  rw [Int.bmod_def]
  split <;> omega
theorem q_I_rem {a b : Int64} (ha : q_I a) (h : ¬ b = -1) : q_I (a - a / b * b) := by
  rw [q_I_iff] at ha ⊢
  rw [q_remT h]
  have t1 : (a.toInt.tmod b.toInt).natAbs ≤ a.toInt.natAbs := by
    rw [Int.natAbs_tmod]
    exact Nat.mod_le _ _
  by_cases hs : a.toInt = -2147483648
  · have : ¬ a.toInt.tmod b.toInt = 2147483648 := by
      intro q
      have := q_tm (show a.toInt ≤ 0 by omega) b.toInt
      omega
    omega
  · omega
theorem q_I_and {a b : Int64} (ha : q_I a) (hb : q_I b) : q_I (a &&& b) := by
  unfold q_I at *
  rw [Int64.toInt32_and, Int32.toInt64_and, ha, hb]
theorem q_I_or {a b : Int64} (ha : q_I a) (hb : q_I b) : q_I (a ||| b) := by
  unfold q_I at *
  rw [Int64.toInt32_or, Int32.toInt64_or, ha, hb]
theorem q_I_xor {a b : Int64} (ha : q_I a) (hb : q_I b) : q_I (a ^^^ b) := by
  unfold q_I at *
  rw [Int64.toInt32_xor, Int32.toInt64_xor, ha, hb]
/-! shifts -/
theorem q_s5 : ∀ j : Nat, j < 32 → ((nI j &&& 31).toBitVec.smod 32).toNat = j := by decide +kernel
theorem q_s6 : ∀ j : Nat, j < 64 → (((nI j).toInt64 &&& 63).toBitVec.smod 64).toNat = j := by decide +kernel
theorem q_u5 : ∀ j : Nat, j < 32 → (((nI j).toUInt32 &&& Int32.toUInt32 31).toBitVec % 32).toNat = j := by decide +kernel
theorem q_u6 : ∀ j : Nat, j < 64 → (((nI j).toInt64.toUInt64 &&& Int64.toUInt64 63).toBitVec % 64).toNat = j := by decide +kernel
theorem q_n31 : ∀ j : Nat, j < 32 → nI j &&& 31 = nI j := by decide +kernel
theorem q_n63 : ∀ j : Nat, j < 64 → nI j &&& 63 = nI j := by decide +kernel
theorem q_by5 (b : Int64) : ∃ j : Nat, j < 32 ∧ (b &&& 31).toInt32 = nI j ∧ b.toInt32 &&& 31 = nI j := by
  obtain ⟨j, h1, h2⟩ := pk_andE b.toInt32 (m := 31) 5 (by decide)
  exact ⟨j, h1, by rw [Int64.toInt32_and]; exact h2, h2⟩
theorem q_by6 (b : Int64) : ∃ j : Nat, j < 64 ∧ (b &&& 63).toInt32 = nI j ∧ b.toInt32 &&& 63 = nI j := by
  obtain ⟨j, h1, h2⟩ := pk_andE b.toInt32 (m := 63) 6 (by decide)
  exact ⟨j, h1, by rw [Int64.toInt32_and]; exact h2, h2⟩
theorem q_lowN (a : Int64) : a.toInt32.toBitVec.toNat = a.toBitVec.toNat % 2 ^ 32 := by
  rw [Int64.toBitVec_toInt32, BitVec.signExtend_eq_setWidth_of_le _ (by decide), BitVec.toNat_setWidth]
theorem q_shlN (a : Int64) {j : Nat} (h : j < 64) : (a <<< ((nI j).toInt64 &&& 63)).toBitVec.toNat = a.toBitVec.toNat * 2 ^ j % 2 ^ 64 := by
  rw [Int64.toBitVec_shiftLeft, BitVec.shiftLeft_eq', q_s6 j h, BitVec.toNat_shiftLeft, Nat.shiftLeft_eq]
theorem q_shl (a : Int64) {j : Nat} (h : j < 32) : (a <<< ((nI j).toInt64 &&& 63)).toInt32 = a.toInt32 <<< (nI j &&& 31) := by
  apply Int32.toBitVec_inj.mp
  apply BitVec.eq_of_toNat_eq
  rw [q_lowN, q_shlN a (by omega), pk_shl _ _ j (q_s5 j h), q_lowN, Nat.mod_mod_of_dvd _ (by decide), Nat.mod_mul_mod]
theorem q_shrT (a : Int64) {j : Nat} (h : j < 64) : (a >>> ((nI j).toInt64 &&& 63)).toInt = a.toInt >>> j := by
  show (a >>> ((nI j).toInt64 &&& 63)).toBitVec.toInt = _
  rw [Int64.toBitVec_shiftRight, BitVec.sshiftRight', q_s6 j h, BitVec.toInt_sshiftRight]
  rfl
theorem q_shr {a : Int64} (ha : q_I a) {j : Nat} (h : j < 32) : (a.toInt32 >>> (nI j &&& 31)).toInt64 = a >>> ((nI j).toInt64 &&& 63) := by
  apply Int64.toInt_inj.mp
  rw [q_shrT a (by omega), Int32.toInt_toInt64, pk_shr _ _ j (q_s5 j h)]
  have e : a.toInt32.toInt = a.toInt := by rw [← Int32.toInt_toInt64, ha]
  rw [e]
theorem q_ushrN (a : Int64) {j : Nat} (h : j < 64) : (a.toUInt64 >>> ((nI j).toInt64.toUInt64 &&& Int64.toUInt64 63)).toInt64.toBitVec.toNat = a.toBitVec.toNat / 2 ^ j := by
  show (a.toUInt64 >>> ((nI j).toInt64.toUInt64 &&& Int64.toUInt64 63)).toBitVec.toNat = _
  rw [UInt64.toBitVec_shiftRight, BitVec.ushiftRight_eq', q_u6 j h, BitVec.toNat_ushiftRight, Nat.shiftRight_eq_div_pow]
  rfl
theorem q_ushr (a : Int64) {j : Nat} (h : j < 32) : (((a &&& 4294967295).toUInt64 >>> ((nI j).toInt64.toUInt64 &&& Int64.toUInt64 63)).toInt64).toInt32 = (a.toInt32.toUInt32 >>> ((nI j).toUInt32 &&& Int32.toUInt32 31)).toInt32 := by
  apply Int32.toBitVec_inj.mp
  apply BitVec.eq_of_toNat_eq
  rw [q_lowN, q_ushrN _ (by omega), pk_ushr _ _ j (q_u5 j h), q_lowN]
  have e : (a &&& 4294967295).toBitVec.toNat = a.toBitVec.toNat % 2 ^ 32 := by
    rw [Int64.toBitVec_and, BitVec.toNat_and, show (4294967295 : Int64).toBitVec.toNat = 2 ^ 32 - 1 by decide, Nat.and_two_pow_sub_one_eq_mod]
  rw [e]
  exact Nat.mod_eq_of_lt (Nat.lt_of_le_of_lt (Nat.div_le_self _ _) (Nat.mod_lt _ (by decide)))
theorem q_ushr0 (a : Int64) : a.toInt32 = (a.toInt32.toUInt32 >>> ((nI 0).toUInt32 &&& Int32.toUInt32 31)).toInt32 := by
  apply Int32.toBitVec_inj.mp
  apply BitVec.eq_of_toNat_eq
  rw [pk_ushr _ _ 0 (q_u5 0 (by decide)), Nat.pow_zero, Nat.div_one]
theorem q_wushr0 (a : Int64) : (a.toUInt64 >>> ((nI 0).toInt64.toUInt64 &&& Int64.toUInt64 63)).toInt64 = a := by
  apply Int64.toBitVec_inj.mp
  apply BitVec.eq_of_toNat_eq
  rw [q_ushrN _ (by decide), Nat.pow_zero, Nat.div_one]
theorem q_andm1 (a : Int64) : a &&& (-1) = a := by
  apply Int64.toBitVec_inj.mp
  rw [Int64.toBitVec_and, show (-1 : Int64).toBitVec = BitVec.allOnes 64 by decide, BitVec.and_allOnes]
/-- what the reference's sign is of an operation that work() numbers -/
def q_sign (o : Int32) : Int32 := if o = 0 then 240 else if o = 1 then 241 else if o = 2 then 242 else if o = 3 then 243 else if o = 4 then 244 else if o = 5 then 237 else if o = 6 then 235 else if o = 7 then 236 else if o = 8 then 221 else if o = 9 then 222 else 203
theorem q_ops {o : Int32} (h0 : ¬ o < 0) (h1 : ¬ 10 < o) : o = 0 ∨ o = 1 ∨ o = 2 ∨ o = 3 ∨ o = 4 ∨ o = 5 ∨ o = 6 ∨ o = 7 ∨ o = 8 ∨ o = 9 ∨ o = 10 := by
  have a1 := mt Int32.lt_iff_toInt_lt.mpr h0
  have b1 := mt Int32.lt_iff_toInt_lt.mpr h1
  rw [show (0 : Int32).toInt = 0 by decide] at a1
  rw [show (10 : Int32).toInt = 10 by decide] at b1
  have go : ∀ n : Int32, o.toInt = n.toInt → o = n := fun n q => Int32.toInt_inj.mp q
  rcases (show o.toInt = 0 ∨ o.toInt = 1 ∨ o.toInt = 2 ∨ o.toInt = 3 ∨ o.toInt = 4 ∨ o.toInt = 5 ∨ o.toInt = 6 ∨ o.toInt = 7 ∨ o.toInt = 8 ∨ o.toInt = 9 ∨ o.toInt = 10 by omega) with q | q | q | q | q | q | q | q | q | q | q
  · exact Or.inl (go 0 q)
  · exact Or.inr (Or.inl (go 1 q))
  · exact Or.inr (Or.inr (Or.inl (go 2 q)))
  · exact Or.inr (Or.inr (Or.inr (Or.inl (go 3 q))))
  · exact Or.inr (Or.inr (Or.inr (Or.inr (Or.inl (go 4 q)))))
  · exact Or.inr (Or.inr (Or.inr (Or.inr (Or.inr (Or.inl (go 5 q))))))
  · exact Or.inr (Or.inr (Or.inr (Or.inr (Or.inr (Or.inr (Or.inl (go 6 q)))))))
  · exact Or.inr (Or.inr (Or.inr (Or.inr (Or.inr (Or.inr (Or.inr (Or.inl (go 7 q))))))))
  · exact Or.inr (Or.inr (Or.inr (Or.inr (Or.inr (Or.inr (Or.inr (Or.inr (Or.inl (go 8 q)))))))))
  · exact Or.inr (Or.inr (Or.inr (Or.inr (Or.inr (Or.inr (Or.inr (Or.inr (Or.inr (Or.inl (go 9 q))))))))))
  · exact Or.inr (Or.inr (Or.inr (Or.inr (Or.inr (Or.inr (Or.inr (Or.inr (Or.inr (Or.inr (go 10 q))))))))))
/-- WORKED as int: the class's combine and the reference's reckoned are one -/
theorem q_two0 {o : Int32} (h0 : ¬ o < 0) (h1 : ¬ 10 < o) {a b : Int64} (ha : q_I a) (hb : o < 8 → q_I b) (hz : ¬ ((o = 3 ∨ o = 4) ∧ b = 0)) : n_combine o 0 a b = r_two (q_sign o) 0 a b := by
  rcases q_ops h0 h1 with rfl | rfl | rfl | rfl | rfl | rfl | rfl | rfl | rfl | rfl | rfl
  · show (a + b).toInt32.toInt64 = r_worked 0 (a + b)
    rw [q_worked0]
  · show (a - b).toInt32.toInt64 = r_worked 0 (a - b)
    rw [q_worked0]
  · show (a * b).toInt32.toInt64 = r_worked 0 (a * b)
    rw [q_worked0]
  · have hb0 : ¬ b = 0 := fun q => hz ⟨Or.inl rfl, q⟩
    show (if b = 0 then 0 else a / b).toInt32.toInt64 = r_worked 0 (if b = -1 then -a else a / b)
    rw [q_worked0, q_div, if_neg hb0]
  · have hb0 : ¬ b = 0 := fun q => hz ⟨Or.inr rfl, q⟩
    show (if b = 0 then 0 else a - a / b * b).toInt32.toInt64 = (if b = -1 then 0 else a - a / b * b)
    rw [if_neg hb0]
    by_cases hm : b = -1
    · rw [q_rem, hm, q_divm1, show -a * (-1) = a by rw [Int64.mul_neg, Int64.neg_mul, Int64.neg_neg, Int64.mul_one], Int64.sub_self]
      rfl
    · rw [if_neg hm]
      exact q_I_rem ha hm
  · exact q_I_and ha (hb (by decide))
  · exact q_I_or ha (hb (by decide))
  · exact q_I_xor ha (hb (by decide))
  · obtain ⟨j, hj, e1, e2⟩ := q_by5 b
    show ((a.toInt32 <<< ((b.toInt32 &&& 31) &&& 31)).toInt64).toInt32.toInt64 = r_worked 0 (a <<< (((b &&& 31).toInt32).toInt64 &&& 63))
    rw [q_worked0, e1, e2, q_shl a hj, Int32.toInt32_toInt64]
  · obtain ⟨j, hj, e1, e2⟩ := q_by5 b
    show ((a.toInt32 >>> ((b.toInt32 &&& 31) &&& 31)).toInt64).toInt32.toInt64 = a >>> (((b &&& 31).toInt32).toInt64 &&& 63)
    rw [e1, e2, Int32.toInt32_toInt64, q_shr ha hj]
  · obtain ⟨j, hj, e1, e2⟩ := q_by5 b
    have hby : r_by 0 b = nI j := by rw [← e1]; exact if_pos rfl
    have hR : r_two (q_sign 10) 0 a b = r_worked 0 (if r_by 0 b = 0 then a else ((a &&& r_low 0).toUInt64 >>> ((r_by 0 b).toInt64.toUInt64 &&& Int64.toUInt64 63)).toInt64) := if_pos rfl
    rw [hR, show r_low 0 = 4294967295 from if_pos rfl, hby]
    show (((a.toInt32.toUInt32 >>> ((b.toInt32 &&& 31).toUInt32 &&& Int32.toUInt32 31)).toInt32).toInt64).toInt32.toInt64 = _
    rw [q_worked0, e2, Int32.toInt32_toInt64]
    by_cases h : nI j = 0
    · rw [if_pos h, show j = 0 from (nI_eq (by omega) (by decide)).mp (h.trans nI_0.symm), ← q_ushr0]
    · rw [if_neg h, q_ushr a hj]
/-- WORKED as long -/
theorem q_two1 {o w : Int32} (hw : ¬ w = 0) (h0 : ¬ o < 0) (h1 : ¬ 10 < o) {a b : Int64} (hz : ¬ ((o = 3 ∨ o = 4) ∧ b = 0)) : n_combine o w a b = r_two (q_sign o) w a b := by
  rw [show n_combine o w a b = n_all o w a b from if_neg hw]
  rcases q_ops h0 h1 with rfl | rfl | rfl | rfl | rfl | rfl | rfl | rfl | rfl | rfl | rfl
  · exact (q_worked1 hw _).symm
  · exact (q_worked1 hw _).symm
  · exact (q_worked1 hw _).symm
  · have hb0 : ¬ b = 0 := fun q => hz ⟨Or.inl rfl, q⟩
    show (if b = 0 then 0 else a / b) = r_worked w (if b = -1 then -a else a / b)
    rw [q_worked1 hw, q_div, if_neg hb0]
  · have hb0 : ¬ b = 0 := fun q => hz ⟨Or.inr rfl, q⟩
    show (if b = 0 then 0 else a - a / b * b) = (if b = -1 then 0 else a - a / b * b)
    rw [if_neg hb0, q_rem]
  · rfl
  · rfl
  · rfl
  · obtain ⟨j, hj, e1, e2⟩ := q_by6 b
    have hby : r_by w b = nI j := by rw [← e1]; exact if_neg hw
    show (if w = 0 then _ else n_wshift 8 a b) = r_worked w (a <<< ((r_by w b).toInt64 &&& 63))
    rw [if_neg hw, q_worked1 hw, hby]
    show a <<< ((b.toInt32 &&& 63).toInt64 &&& 63) = _
    rw [e2]
  · obtain ⟨j, hj, e1, e2⟩ := q_by6 b
    have hby : r_by w b = nI j := by rw [← e1]; exact if_neg hw
    show (if w = 0 then _ else n_wshift 9 a b) = a >>> ((r_by w b).toInt64 &&& 63)
    rw [if_neg hw, hby]
    show a >>> ((b.toInt32 &&& 63).toInt64 &&& 63) = _
    rw [e2]
  · obtain ⟨j, hj, e1, e2⟩ := q_by6 b
    have hby : r_by w b = nI j := by rw [← e1]; exact if_neg hw
    show (if w = 0 then _ else n_wshift 10 a b) = r_worked w (if r_by w b = 0 then a else ((a &&& r_low w).toUInt64 >>> ((r_by w b).toInt64.toUInt64 &&& Int64.toUInt64 63)).toInt64)
    rw [if_neg hw, q_worked1 hw, hby, show r_low w = -1 from if_neg hw, q_andm1]
    show (a.toUInt64 >>> ((b.toInt32 &&& 63).toInt64.toUInt64 &&& Int64.toUInt64 63)).toInt64 = _
    rw [e2]
    by_cases h : nI j = 0
    · rw [if_pos h, show j = 0 from (nI_eq (by omega) (by decide)).mp (h.trans nI_0.symm), q_wushr0]
    · rw [if_neg h]
/-! how many 0s ahead, and turns -/
theorem q_bitN (a : Int64) {j : Nat} (h : j < 64) : n_bit a (nI j) = if a.toBitVec.getLsbD j then 1 else 0 := by
  apply Int64.toBitVec_inj.mp
  apply BitVec.eq_of_toNat_eq
  have e : (n_bit a (nI j)).toBitVec.toNat = a.toBitVec.toNat / 2 ^ j % 2 := by
    unfold n_bit
    rw [Int64.toBitVec_and, BitVec.toNat_and, q_ushrN a h, show (1 : Int64).toBitVec.toNat = 2 ^ 1 - 1 by decide, Nat.and_two_pow_sub_one_eq_mod]
  rw [e]
  have t : a.toBitVec.getLsbD j = decide (a.toBitVec.toNat / 2 ^ j % 2 = 1) := by
    rw [BitVec.getLsbD, Nat.testBit_eq_decide_div_mod_eq]
  rw [t]
  by_cases q : a.toBitVec.toNat / 2 ^ j % 2 = 1
  · simp [q]
  · have : a.toBitVec.toNat / 2 ^ j % 2 = 0 := by omega
    simp [this]
def q_lz (a : Int64) : Nat → Nat
  | 0 => 0
  | k + 1 => if a.toBitVec.getLsbD k then 0 else q_lz a k + 1
theorem q_lzB (a : Int64) : ∀ k : Nat, q_lz a k ≤ k
  | 0 => Nat.le_refl 0
  | k + 1 => by
    unfold q_lz
    have := q_lzB a k
    split <;> omega
theorem q_ah (a : Int64) : ∀ k : Nat, k ≤ 64 → r_ah a k = nI (q_lz a k)
  | 0, _ => rfl
  | k + 1, h => by
    unfold r_ah q_lz
    rw [q_bitN a (show k < 64 by omega), q_ah a k (by omega)]
    by_cases q : a.toBitVec.getLsbD k = true
    · simp [q]; rfl
    · simp only [q]
      rw [if_neg (by decide), if_neg (by decide), nI_1]
theorem q_ld (a : Int64) (B : Nat) (hB : B ≤ 64) : ∀ d k : Nat, k + d = B → n_ld a B d k = k + q_lz a d
  | 0, k, _ => rfl
  | d + 1, k, h => by
    unfold n_ld q_lz
    have e : nI B - 1 - nI k = nI d := by
      rw [show (1 : Int32) = nI 1 from rfl, pk_sub (by omega), pk_sub (by omega), show B - 1 - k = d by omega]
    rw [e, q_bitN a (show d < 64 by omega), q_ld a B hB d (k + 1) (by omega)]
    by_cases q : a.toBitVec.getLsbD d = true
    · simp [q]
    · simp only [q]
      rw [if_pos (by decide), if_neg (by decide)]
      omega
theorem q_lead (a : Int64) (B : Nat) (hB : B ≤ 64) : nI (n_ld a B B 0) = r_ah a B := by
  rw [q_ld a B hB B 0 (Nat.zero_add B), Nat.zero_add, q_ah a B hB]
/-! turns -/
theorem q_t1 (v : Int64) (B : Nat) (hB : 0 < B) (hB2 : B ≤ 64) {i : Nat} (hi : i < B) : (r_t1 (nI B) v).toBitVec.getLsbD i = v.toBitVec.getLsbD ((i + B - 1) % B) := by
  have e1 : nI B - 1 = nI (B - 1) := by
    rw [show (1 : Int32) = nI 1 from rfl, pk_sub (by omega)]
  have e2 : ((v.toUInt64 >>> ((nI B - 1).toInt64.toUInt64 &&& Int64.toUInt64 63)).toInt64 &&& 1) = if v.toBitVec.getLsbD (B - 1) then 1 else 0 := by
    rw [e1]
    exact q_bitN v (show B - 1 < 64 by omega)
  unfold r_t1
  rw [e2, show (1 : Int32) = nI 1 from rfl, Int64.toBitVec_or, BitVec.getLsbD_or, Int64.toBitVec_shiftLeft, BitVec.shiftLeft_eq', q_s6 1 (by decide), BitVec.getLsbD_shiftLeft]
  by_cases h0 : i = 0
  · subst h0
    have : (0 + B - 1) % B = B - 1 := by rw [Nat.mod_eq_of_lt] <;> omega
    rw [this]
    cases v.toBitVec.getLsbD (B - 1) <;> simp
  · have h1 : (i + B - 1) % B = i - 1 := by
      rw [show i + B - 1 = (i - 1) + B by omega, Nat.add_mod_right, Nat.mod_eq_of_lt (by omega)]
    rw [h1]
    have h2 : (if v.toBitVec.getLsbD (B - 1) = true then (1 : Int64) else 0).toBitVec.getLsbD i = false := by
      cases v.toBitVec.getLsbD (B - 1)
      · simp
      · simp [h0]
    rw [h2]
    simp
    omega
theorem q_tn (v : Int64) (B : Nat) (hB : 0 < B) (hB2 : B ≤ 64) : ∀ (U : Nat), U ≤ B → ∀ {i : Nat}, i < B → (r_tn (nI B) v U).toBitVec.getLsbD i = v.toBitVec.getLsbD ((i + B - U) % B)
  | 0, _, i, hi => by
    show v.toBitVec.getLsbD i = _
    rw [show (i + B - 0) % B = i by rw [Nat.sub_zero, Nat.add_mod_right, Nat.mod_eq_of_lt hi]]
  | U + 1, hU, i, hi => by
    show (r_t1 (nI B) (r_tn (nI B) v U)).toBitVec.getLsbD i = _
    rw [q_t1 _ B hB hB2 hi, q_tn v B hB hB2 U (by omega) (Nat.mod_lt _ hB)]
    congr 1
    by_cases h0 : i = 0
    · subst h0
      have e : (0 + B - 1) % B = B - 1 := by rw [Nat.mod_eq_of_lt] <;> omega
      rw [e]
      rw [show B - 1 + B - U = (B - 1 - U) + B by omega, Nat.add_mod_right]
      congr 1
      omega
    · have h1 : (i + B - 1) % B = i - 1 := by
        rw [show i + B - 1 = (i - 1) + B by omega, Nat.add_mod_right, Nat.mod_eq_of_lt (by omega)]
      rw [h1]
      congr 1
      omega
/-- the class's turn of an int by a place that counts like U -/
theorem q_lowB (a : Int64) {i : Nat} (hi : i < 32) : a.toInt32.toBitVec.getLsbD i = a.toBitVec.getLsbD i := by
  rw [Int64.toBitVec_toInt32, BitVec.signExtend_eq_setWidth_of_le _ (by decide), BitVec.getLsbD_setWidth]
  simp [hi]
theorem q_neg5 : ∀ U : Nat, U < 32 → (((-(nI U)).toUInt32 &&& Int32.toUInt32 31).toBitVec % 32).toNat = (32 - U) % 32 := by decide +kernel
theorem q_neg6 : ∀ U : Nat, U < 64 → (((-(nI U)).toInt64.toUInt64 &&& Int64.toUInt64 63).toBitVec % 64).toNat = (64 - U) % 64 := by decide +kernel
theorem q_turnB (x k : Int32) {U : Nat} (hU : U < 32) (h1 : ((k &&& 31).toBitVec.smod 32).toNat = U) (h2 : (((-k).toUInt32 &&& Int32.toUInt32 31).toBitVec % 32).toNat = (32 - U) % 32) {i : Nat} (hi : i < 32) : (n_turn x k).toBitVec.getLsbD i = x.toBitVec.getLsbD ((i + 32 - U) % 32) := by
  unfold n_turn
  rw [Int32.toBitVec_or, BitVec.getLsbD_or, Int32.toBitVec_shiftLeft, BitVec.shiftLeft_eq', h1, BitVec.getLsbD_shiftLeft]
  have e : (x.toUInt32 >>> ((-k).toUInt32 &&& Int32.toUInt32 31)).toInt32.toBitVec = x.toBitVec >>> ((32 - U) % 32) := by
    show (x.toUInt32 >>> ((-k).toUInt32 &&& Int32.toUInt32 31)).toBitVec = _
    rw [UInt32.toBitVec_shiftRight, BitVec.ushiftRight_eq', h2]
    rfl
  rw [e, BitVec.getLsbD_ushiftRight]
  by_cases h0 : U = 0
  · subst h0
    have e1 : (i + 32 - 0) % 32 = i := by omega
    have e2 : (32 - 0) % 32 + i = i := by omega
    rw [e1, e2]
    simp [hi]
  · have e2 : (32 - U) % 32 = 32 - U := by omega
    rw [e2]
    by_cases hlt : i < U
    · have e1 : (i + 32 - U) % 32 = 32 - U + i := by omega
      rw [e1]
      simp [hlt]
    · have e1 : (i + 32 - U) % 32 = i - U := by omega
      have e3 : x.toBitVec.getLsbD (32 - U + i) = false := BitVec.getLsbD_of_ge _ _ (by omega)
      rw [e1, e3]
      simp [hi, hlt]
theorem q_turnWB (x : Int64) (k : Int32) {U : Nat} (hU : U < 64) (h1 : ((k.toInt64 &&& 63).toBitVec.smod 64).toNat = U) (h2 : (((-k).toInt64.toUInt64 &&& Int64.toUInt64 63).toBitVec % 64).toNat = (64 - U) % 64) {i : Nat} (hi : i < 64) : (n_turnW x k).toBitVec.getLsbD i = x.toBitVec.getLsbD ((i + 64 - U) % 64) := by
  unfold n_turnW
  rw [Int64.toBitVec_or, BitVec.getLsbD_or, Int64.toBitVec_shiftLeft, BitVec.shiftLeft_eq', h1, BitVec.getLsbD_shiftLeft]
  have e : (x.toUInt64 >>> ((-k).toInt64.toUInt64 &&& Int64.toUInt64 63)).toInt64.toBitVec = x.toBitVec >>> ((64 - U) % 64) := by
    show (x.toUInt64 >>> ((-k).toInt64.toUInt64 &&& Int64.toUInt64 63)).toBitVec = _
    rw [UInt64.toBitVec_shiftRight, BitVec.ushiftRight_eq', h2]
    rfl
  rw [e, BitVec.getLsbD_ushiftRight]
  by_cases h0 : U = 0
  · subst h0
    have e1 : (i + 64 - 0) % 64 = i := by omega
    have e2 : (64 - 0) % 64 + i = i := by omega
    rw [e1, e2]
    simp [hi]
  · have e2 : (64 - U) % 64 = 64 - U := by omega
    rw [e2]
    by_cases hlt : i < U
    · have e1 : (i + 64 - U) % 64 = 64 - U + i := by omega
      rw [e1]
      simp [hlt]
    · have e1 : (i + 64 - U) % 64 = i - U := by omega
      have e3 : x.toBitVec.getLsbD (64 - U + i) = false := BitVec.getLsbD_of_ge _ _ (by omega)
      rw [e1, e3]
      simp [hi, hlt]
theorem q_turn (a : Int64) (k : Int32) {U : Nat} (hU : U < 32) (h1 : ((k &&& 31).toBitVec.smod 32).toNat = U) (h2 : (((-k).toUInt32 &&& Int32.toUInt32 31).toBitVec % 32).toNat = (32 - U) % 32) : n_turn a.toInt32 k = (r_tn (nI 32) a U).toInt32 := by
  apply Int32.toBitVec_inj.mp
  apply BitVec.eq_of_getLsbD_eq
  intro i hi
  have hi : i < 32 := hi
  rw [q_turnB _ _ hU h1 h2 hi, q_lowB _ hi, q_tn a 32 (by decide) (by decide) U (by omega) hi, q_lowB _ (Nat.mod_lt _ (by decide))]
theorem q_turnW (a : Int64) (k : Int32) {U : Nat} (hU : U < 64) (h1 : ((k.toInt64 &&& 63).toBitVec.smod 64).toNat = U) (h2 : (((-k).toInt64.toUInt64 &&& Int64.toUInt64 63).toBitVec % 64).toNat = (64 - U) % 64) : n_turnW a k = r_tn (nI 64) a U := by
  apply Int64.toBitVec_inj.mp
  apply BitVec.eq_of_getLsbD_eq
  intro i hi
  have hi : i < 64 := hi
  rw [q_turnWB _ _ hU h1 h2 hi, q_tn a 64 (by decide) (by decide) U (by omega) hi]
/-! rol and ror, class and reference -/
theorem q_k31 (k : Int32) : k &&& 31 = nI (k.toBitVec.toNat % 32) := pk_and k (m := 31) 5 (by decide)
theorem q_k63 (k : Int32) : k &&& 63 = nI (k.toBitVec.toNat % 64) := pk_and k (m := 63) 6 (by decide)
theorem q_kS (k : Int32) : ((k &&& 31).toBitVec.smod 32).toNat = k.toBitVec.toNat % 32 := by
  have h : k.toBitVec.toNat % 32 < 32 := Nat.mod_lt _ (by decide)
  rw [q_k31, ← q_n31 _ h, q_s5 _ h]
theorem q_negN (k : Int32) : (-k).toBitVec.toNat = (4294967296 - k.toBitVec.toNat) % 4294967296 := by
  rw [Int32.toBitVec_neg, BitVec.toNat_neg]
theorem q_u5b : ∀ j : Nat, j < 32 → (((nI j).toUInt32).toBitVec % 32).toNat = j := by decide +kernel
theorem q_u6b : ∀ j : Nat, j < 64 → (((nI j).toInt64.toUInt64).toBitVec % 64).toNat = j := by decide +kernel
theorem q_w63 : ∀ j : Nat, j < 64 → (nI j).toInt64 &&& 63 = (nI j).toInt64 := by decide +kernel
theorem q_kU (k : Int32) : (((-k).toUInt32 &&& Int32.toUInt32 31).toBitVec % 32).toNat = (32 - k.toBitVec.toNat % 32) % 32 := by
  have e : (-k).toUInt32 &&& Int32.toUInt32 31 = (nI ((-k).toBitVec.toNat % 32)).toUInt32 := by
    rw [← q_k31, Int32.toUInt32_and]
  have hk := k.toBitVec.isLt
  rw [e, q_u5b _ (Nat.mod_lt _ (by decide)), q_negN]
  omega
theorem q_kSW (k : Int32) : ((k.toInt64 &&& 63).toBitVec.smod 64).toNat = k.toBitVec.toNat % 64 := by
  have h : k.toBitVec.toNat % 64 < 64 := Nat.mod_lt _ (by decide)
  have e : k.toInt64 &&& 63 = (nI (k.toBitVec.toNat % 64)).toInt64 &&& 63 := by
    rw [q_w63 _ h, ← q_k63, Int32.toInt64_and]
    rfl
  rw [e, q_s6 _ h]
theorem q_kUW (k : Int32) : (((-k).toInt64.toUInt64 &&& Int64.toUInt64 63).toBitVec % 64).toNat = (64 - k.toBitVec.toNat % 64) % 64 := by
  have e : (-k).toInt64.toUInt64 &&& Int64.toUInt64 63 = (nI ((-k).toBitVec.toNat % 64)).toInt64.toUInt64 := by
    rw [← q_k63, Int32.toInt64_and, Int64.toUInt64_and]
    rfl
  have hk := k.toBitVec.isLt
  rw [e, q_u6b _ (Nat.mod_lt _ (by decide)), q_negN]
  omega
theorem q_rt (a : Int64) (k : Int32) : n_turn a.toInt32 k = (r_tn (nI 32) a (k.toBitVec.toNat % 32)).toInt32 := q_turn a k (Nat.mod_lt _ (by decide)) (q_kS k) (q_kU k)
theorem q_rtW (a : Int64) (k : Int32) : n_turnW a k = r_tn (nI 64) a (k.toBitVec.toNat % 64) := q_turnW a k (Nat.mod_lt _ (by decide)) (q_kSW k) (q_kUW k)
theorem q_by0 (b : Int64) : r_byB 0 b = nI (b.toInt32.toBitVec.toNat % 32) := by
  rw [← q_k31]
  show (b &&& 31).toInt32 = _
  rw [Int64.toInt32_and]
  rfl
theorem q_by1 {w : Int32} (hw : ¬ w = 0) (b : Int64) : r_byB w b = nI (b.toInt32.toBitVec.toNat % 64) := by
  rw [← q_k63]
  unfold r_byB r_B
  rw [if_neg hw]
  show (b &&& 63).toInt32 = _
  rw [Int64.toInt32_and]
  rfl
theorem q_sp3 (w : Int32) (a b : Int64) : r_special 3 w a b = r_worked w (r_tn (nI (r_B w)) a (r_byB w b).toNatClampNeg) := by
  unfold r_special
  rw [if_neg (by decide), if_neg (by decide), if_neg (by decide), if_neg (by decide), show r_up 3 w b = r_byB w b from if_pos rfl]
theorem q_sp4 (w : Int32) (a b : Int64) : r_special 4 w a b = r_worked w (r_tn (nI (r_B w)) a (r_up 4 w b).toNatClampNeg) := by
  unfold r_special
  rw [if_neg (by decide), if_neg (by decide), if_neg (by decide), if_neg (by decide)]
theorem q_ap8 (a b : Int64) : n_apply 8 0 a b = (n_turn a.toInt32 b.toInt32).toInt64 := by
  unfold n_apply
  rw [if_neg (by decide), if_neg (by decide), if_neg (by decide), if_neg (by decide), if_neg (by decide), if_neg (by decide), if_neg (by decide), if_neg (by decide), if_pos rfl, if_pos rfl]
theorem q_ap9 (a b : Int64) : n_apply 9 0 a b = (n_turn a.toInt32 (-b.toInt32)).toInt64 := by
  unfold n_apply
  rw [if_neg (by decide), if_neg (by decide), if_neg (by decide), if_neg (by decide), if_neg (by decide), if_neg (by decide), if_neg (by decide), if_neg (by decide), if_neg (by decide), if_pos rfl, if_pos rfl]
theorem q_rol0 (a b : Int64) : n_apply 8 0 a b = r_special 3 0 a b := by
  have h : b.toInt32.toBitVec.toNat % 32 < 32 := Nat.mod_lt _ (by decide)
  rw [q_ap8, q_sp3, q_worked0, q_by0, nI_clamp (by omega), q_rt, show r_B 0 = 32 from if_pos rfl]
theorem q_rol1 {w : Int32} (hw : ¬ w = 0) (a b : Int64) : n_apply 8 w a b = r_special 3 w a b := by
  show (if w = 0 then _ else n_turnW a b.toInt32) = r_worked w (r_tn (nI (r_B w)) a (r_byB w b).toNatClampNeg)
  have h : b.toInt32.toBitVec.toNat % 64 < 64 := Nat.mod_lt _ (by decide)
  rw [if_neg hw, q_worked1 hw, q_by1 hw, nI_clamp (by omega), q_rtW, show r_B w = 64 from if_neg hw]
theorem q_up0 (b : Int64) : r_up 4 0 b = nI ((32 - b.toInt32.toBitVec.toNat % 32) % 32) := by
  have h : b.toInt32.toBitVec.toNat % 32 < 32 := Nat.mod_lt _ (by decide)
  show (nI 32 - r_byB 0 b) - (nI 32 - r_byB 0 b) / nI 32 * nI 32 = _
  rw [q_by0, pk_sub (by omega), pk_rem (by omega) (by omega) (by omega)]
theorem q_up1 {w : Int32} (hw : ¬ w = 0) (b : Int64) : r_up 4 w b = nI ((64 - b.toInt32.toBitVec.toNat % 64) % 64) := by
  have h : b.toInt32.toBitVec.toNat % 64 < 64 := Nat.mod_lt _ (by decide)
  show (nI (r_B w) - r_byB w b) - (nI (r_B w) - r_byB w b) / nI (r_B w) * nI (r_B w) = _
  rw [q_by1 hw, show r_B w = 64 from if_neg hw, pk_sub (by omega), pk_rem (by omega) (by omega) (by omega)]
theorem q_neg32 (k : Int32) : (-k).toBitVec.toNat % 32 = (32 - k.toBitVec.toNat % 32) % 32 := by
  have hk := k.toBitVec.isLt
  rw [q_negN]
  omega
theorem q_neg64 (k : Int32) : (-k).toBitVec.toNat % 64 = (64 - k.toBitVec.toNat % 64) % 64 := by
  have hk := k.toBitVec.isLt
  rw [q_negN]
  omega
theorem q_ror0 (a b : Int64) : n_apply 9 0 a b = r_special 4 0 a b := by
  rw [q_ap9, q_sp4, q_worked0, q_up0, nI_clamp (by omega), q_rt, q_neg32, show r_B 0 = 32 from if_pos rfl]
theorem q_ror1 {w : Int32} (hw : ¬ w = 0) (a b : Int64) : n_apply 9 w a b = r_special 4 w a b := by
  show (if w = 0 then _ else n_turnW a (-b.toInt32)) = r_worked w (r_tn (nI (r_B w)) a (r_up 4 w b).toNatClampNeg)
  rw [if_neg hw, q_worked1 hw, q_up1 hw, nI_clamp (by omega), q_rtW, q_neg64, show r_B w = 64 from if_neg hw]
/-! min, max -/
theorem q_min (w : Int32) (a b : Int64) : n_apply 6 w a b = r_special 1 w a b := by
  show (if b < a then b else a) = (if b ≤ a then b else a)
  by_cases h : b < a
  · rw [if_pos h, if_pos (Int64.le_of_lt h)]
  · by_cases h2 : b ≤ a
    · rw [if_neg h, if_pos h2]
      exact Int64.le_antisymm (Int64.not_lt.mp h) h2
    · rw [if_neg h, if_neg h2]
theorem q_max (w : Int32) (a b : Int64) : n_apply 7 w a b = r_special 2 w a b := by
  show (if a < b then b else a) = (if a ≤ b then b else a)
  by_cases h : a < b
  · rw [if_pos h, if_pos (Int64.le_of_lt h)]
  · by_cases h2 : a ≤ b
    · rw [if_neg h, if_pos h2]
      exact Int64.le_antisymm h2 (Int64.not_lt.mp h)
    · rw [if_neg h, if_neg h2]
/-! abs, rev, lead, - and the like -/
theorem q_abs (w : Int32) (a b : Int64) : n_apply 10 w a b = r_special 0 w a 0 := by
  show (if w = 0 then (if 0 ≤ a then a else -a).toInt32.toInt64 else (if 0 ≤ a then a else -a)) = r_worked w (if 0 ≤ a then a else -a)
  by_cases hw : w = 0
  · rw [if_pos hw, hw, q_worked0]
  · rw [if_neg hw, q_worked1 hw]
theorem q_rev (w : Int32) (a b : Int64) : n_apply 11 w a b = r_special 5 w a 0 := by
  show (if w = 0 then (n_one 11 w a).toInt32.toInt64 else n_one 11 w a) = r_worked w (n_rv a (r_B w))
  have e : n_one 11 w a = if w = 0 then n_rv a 32 else n_rv a 64 := rfl
  by_cases hw : w = 0
  · rw [if_pos hw, e, if_pos hw, hw, q_worked0]
    rfl
  · rw [if_neg hw, e, if_neg hw, q_worked1 hw, show r_B w = 64 from if_neg hw]
theorem q_leads (w : Int32) (a b : Int64) : n_apply 13 w a b = r_special 7 w a 0 := by
  have e : n_one 13 w a = if w = 0 then (nI (n_ld a 32 32 0)).toInt64 else (nI (n_ld a 64 64 0)).toInt64 := rfl
  show (if w = 0 then (n_one 13 w a).toInt32.toInt64 else n_one 13 w a) = (r_ah a (r_B w)).toInt64
  by_cases hw : w = 0
  · rw [if_pos hw, e, if_pos hw, hw, Int32.toInt32_toInt64, q_lead a 32 (by decide)]
    rfl
  · rw [if_neg hw, e, if_neg hw, q_lead a 64 (by decide), show r_B w = 64 from if_neg hw]
/-! how many bits are 1: the JDK's bitCount, and the count bit by bit -/
def p_m (mb : Nat) : Nat → Nat
  | 0 => 0
  | k + 1 => mb + 256 * p_m mb k
def p_map (t : Nat → Nat) : Nat → Nat → Nat
  | 0, _ => 0
  | k + 1, n => t (n % 256) + 256 * p_map t k (n / 256)
def p_t1 (b : Nat) : Nat := b - (b / 2 &&& 85)
def p_t2 (b : Nat) : Nat := (b &&& 51) + (b / 4 &&& 51)
def p_t3 (b : Nat) : Nat := (b + b / 16) % 16
def p_8 (b : Nat) : Nat := b % 2 + b / 2 % 2 + b / 4 % 2 + b / 8 % 2 + b / 16 % 2 + b / 32 % 2 + b / 64 % 2 + b / 128 % 2
theorem p_land {b c r d : Nat} (hb : b < 256) (hc : c < 256) : (b + 256 * r) &&& (c + 256 * d) = (b &&& c) + 256 * (r &&& d) := by
  apply Nat.eq_of_testBit_eq
  intro j
  have hbc : b &&& c < 256 := Nat.lt_of_le_of_lt Nat.and_le_left hb
  rw [Nat.testBit_and, Nat.add_comm b, Nat.add_comm c, Nat.add_comm (b &&& c), show (256 : Nat) = 2 ^ 8 from rfl, Nat.testBit_two_pow_mul_add _ (show b < 2 ^ 8 from hb), Nat.testBit_two_pow_mul_add _ (show c < 2 ^ 8 from hc), Nat.testBit_two_pow_mul_add _ (show b &&& c < 2 ^ 8 from hbc), Nat.testBit_and, Nat.testBit_and]
  split <;> rfl
theorem p_c1 : ∀ b : Nat, b < 256 → (b / 2 + 128 &&& 85) = (b / 2 &&& 85) := by decide +kernel
theorem p_c2 : ∀ e : Nat, e < 4 → ∀ b : Nat, b < 256 → (b / 4 + 64 * e &&& 51) = (b / 4 &&& 51) := by decide +kernel
theorem p_c1' {b e : Nat} (hb : b < 256) (he : e < 2) : (b / 2 + 128 * e &&& 85) = (b / 2 &&& 85) := by
  rcases (show e = 0 ∨ e = 1 by omega) with rfl | rfl
  · rfl
  · exact p_c1 b hb
theorem p_l1 : ∀ (k n : Nat), n < 256 ^ k → n - (n / 2 &&& p_m 85 k) = p_map p_t1 k n
  | 0, n, h => by
    have : n = 0 := by omega
    subst this
    rfl
  | k + 1, n, h => by
    have hr : n / 256 < 256 ^ k := by
      rw [Nat.pow_succ] at h
      exact Nat.div_lt_of_lt_mul (by omega)
    have ih := p_l1 k (n / 256) hr
    have hb : n % 256 < 256 := Nat.mod_lt _ (by decide)
    have e1 : n / 2 = (n % 256 / 2 + 128 * (n / 256 % 2)) + 256 * (n / 256 / 2) := by omega
    have e2 : (n / 2 &&& p_m 85 (k + 1)) = (n % 256 / 2 &&& 85) + 256 * (n / 256 / 2 &&& p_m 85 k) := by
      rw [e1]
      show _ &&& (85 + 256 * p_m 85 k) = _
      rw [p_land (by omega) (by decide), p_c1' hb (Nat.mod_lt _ (by decide))]
    have e3 : (n % 256 / 2 &&& 85) ≤ n % 256 := Nat.le_trans Nat.and_le_left (Nat.div_le_self _ _)
    have e4 : (n / 256 / 2 &&& p_m 85 k) ≤ n / 256 := Nat.le_trans Nat.and_le_left (Nat.div_le_self _ _)
    rw [e2]
    show _ = p_t1 (n % 256) + 256 * p_map p_t1 k (n / 256)
    rw [← ih]
    unfold p_t1
    omega
theorem p_l2 : ∀ (k n : Nat), n < 256 ^ k → (n &&& p_m 51 k) + (n / 4 &&& p_m 51 k) = p_map p_t2 k n
  | 0, n, h => by
    have : n = 0 := by omega
    subst this
    rfl
  | k + 1, n, h => by
    have hr : n / 256 < 256 ^ k := by
      rw [Nat.pow_succ] at h
      exact Nat.div_lt_of_lt_mul (by omega)
    have ih := p_l2 k (n / 256) hr
    have hb : n % 256 < 256 := Nat.mod_lt _ (by decide)
    have e0 : n = n % 256 + 256 * (n / 256) := by omega
    have e1 : n / 4 = (n % 256 / 4 + 64 * (n / 256 % 4)) + 256 * (n / 256 / 4) := by omega
    have e2 : (n / 4 &&& p_m 51 (k + 1)) = (n % 256 / 4 &&& 51) + 256 * (n / 256 / 4 &&& p_m 51 k) := by
      rw [e1]
      show _ &&& (51 + 256 * p_m 51 k) = _
      rw [p_land (by omega) (by decide), p_c2 _ (Nat.mod_lt _ (by decide)) _ hb]
    have e3 : (n &&& p_m 51 (k + 1)) = (n % 256 &&& 51) + 256 * (n / 256 &&& p_m 51 k) := by
      conv => lhs; rw [e0]
      show _ &&& (51 + 256 * p_m 51 k) = _
      rw [p_land hb (by decide)]
    rw [e2, e3]
    show _ = p_t2 (n % 256) + 256 * p_map p_t2 k (n / 256)
    rw [← ih]
    unfold p_t2
    omega
theorem p_mapL {t : Nat → Nat} (ht : ∀ b, b < 256 → t b < 256) : ∀ k n : Nat, p_map t k n < 256 ^ k
  | 0, _ => by show 0 < 1; decide
  | k + 1, n => by
    have h1 := ht (n % 256) (Nat.mod_lt _ (by decide))
    have h2 := p_mapL ht k (n / 256)
    show t (n % 256) + 256 * p_map t k (n / 256) < _
    rw [Nat.pow_succ]
    omega
theorem p_map2 {t u : Nat → Nat} (ht : ∀ b, b < 256 → t b < 256) : ∀ k n : Nat, p_map u k (p_map t k n) = p_map (fun b => u (t b)) k n
  | 0, _ => rfl
  | k + 1, n => by
    have h1 := ht (n % 256) (Nat.mod_lt _ (by decide))
    show u ((t (n % 256) + 256 * p_map t k (n / 256)) % 256) + 256 * p_map u k ((t (n % 256) + 256 * p_map t k (n / 256)) / 256) = u (t (n % 256)) + 256 * p_map (fun b => u (t b)) k (n / 256)
    rw [show (t (n % 256) + 256 * p_map t k (n / 256)) % 256 = t (n % 256) by omega, show (t (n % 256) + 256 * p_map t k (n / 256)) / 256 = p_map t k (n / 256) by omega, p_map2 ht k]
theorem p_low {t : Nat → Nat} (ht : ∀ b, b < 256 → t b % 16 ≤ 4) : ∀ k n : Nat, p_map t k n % 16 ≤ 4
  | 0, _ => by show 0 % 16 ≤ 4; decide
  | k + 1, n => by
    have h1 := ht (n % 256) (Nat.mod_lt _ (by decide))
    show (t (n % 256) + 256 * p_map t k (n / 256)) % 16 ≤ 4
    omega
theorem p_l3 {t : Nat → Nat} (h0 : ∀ b, b < 256 → t b < 256) (ht : ∀ b, b < 256 → t b % 16 ≤ 4) (hu : ∀ b, b < 256 → t b / 16 ≤ 4) : ∀ (k n : Nat), (p_map t k n + p_map t k n / 16 &&& p_m 15 k) = p_map (fun b => p_t3 (t b)) k n
  | 0, n => Nat.and_zero _
  | k + 1, n => by
    have ih := p_l3 h0 ht hu k (n / 256)
    have hb : n % 256 < 256 := Nat.mod_lt _ (by decide)
    have h1 := ht _ hb
    have h2 := hu _ hb
    have h3 := p_low ht k (n / 256)
    show (t (n % 256) + 256 * p_map t k (n / 256) + (t (n % 256) + 256 * p_map t k (n / 256)) / 16 &&& (15 + 256 * p_m 15 k)) = p_t3 (t (n % 256)) + 256 * p_map (fun b => p_t3 (t b)) k (n / 256)
    rw [← ih]
    generalize p_map t k (n / 256) = R at h3 ⊢
    generalize t (n % 256) = v at h1 h2 ⊢
    have e : v + 256 * R + (v + 256 * R) / 16 = (v + v / 16 + 16 * (R % 16)) + 256 * (R + R / 16) := by omega
    rw [e, p_land (by omega) (by decide)]
    have e2 : (v + v / 16 + 16 * (R % 16) &&& 15) = p_t3 v := by
      rw [show (15 : Nat) = 2 ^ 4 - 1 from rfl, Nat.and_two_pow_sub_one_eq_mod]
      unfold p_t3
      omega
    rw [e2]
theorem p_b1 : ∀ b : Nat, b < 256 → p_t1 b < 256 := by decide +kernel
theorem p_b2 : ∀ b : Nat, b < 256 → p_t2 (p_t1 b) < 256 := by decide +kernel
theorem p_b3 : ∀ b : Nat, b < 256 → p_t2 (p_t1 b) % 16 ≤ 4 := by decide +kernel
theorem p_b4 : ∀ b : Nat, b < 256 → p_t2 (p_t1 b) / 16 ≤ 4 := by decide +kernel
theorem p_b5 : ∀ b : Nat, b < 256 → p_t3 (p_t2 (p_t1 b)) = p_8 b := by decide +kernel
theorem p_b6 : ∀ b : Nat, b < 256 → p_8 b ≤ 8 := by decide +kernel
/-- the three masked steps, on k bytes -/
theorem p_steps (k n : Nat) (h : n < 256 ^ k) : (p_map p_t2 k (p_map p_t1 k n) + p_map p_t2 k (p_map p_t1 k n) / 16 &&& p_m 15 k) = p_map (fun b => p_t3 (p_t2 (p_t1 b))) k n := by
  rw [p_map2 p_b1]
  exact p_l3 p_b2 p_b3 p_b4 k n
/-- the count, from the lowest bit on -/
def p_cnt : Nat → Nat → Nat
  | 0, _ => 0
  | k + 1, n => n % 2 + p_cnt k (n / 2)
theorem p_cnt8 (k n : Nat) : p_cnt (k + 8) n = p_8 (n % 256) + p_cnt k (n / 256) := by
  show n % 2 + (n / 2 % 2 + (n / 2 / 2 % 2 + (n / 2 / 2 / 2 % 2 + (n / 2 / 2 / 2 / 2 % 2 + (n / 2 / 2 / 2 / 2 / 2 % 2 + (n / 2 / 2 / 2 / 2 / 2 / 2 % 2 + (n / 2 / 2 / 2 / 2 / 2 / 2 / 2 % 2 + p_cnt k (n / 2 / 2 / 2 / 2 / 2 / 2 / 2 / 2)))))))) = _
  rw [show n / 2 / 2 / 2 / 2 / 2 / 2 / 2 / 2 = n / 256 by omega]
  unfold p_8
  omega
theorem p_cntS : ∀ k n : Nat, p_cnt (k + 1) n = p_cnt k n + n / 2 ^ k % 2
  | 0, n => by
    show n % 2 + 0 = 0 + n / 1 % 2
    omega
  | k + 1, n => by
    show n % 2 + p_cnt (k + 1) (n / 2) = (n % 2 + p_cnt k (n / 2)) + n / 2 ^ (k + 1) % 2
    rw [p_cntS k (n / 2), Nat.pow_succ, Nat.mul_comm, Nat.div_div_eq_div_mul]
    omega
theorem q_on (a : Int64) : ∀ k : Nat, k ≤ 64 → r_on a k = nI (p_cnt k a.toBitVec.toNat)
  | 0, _ => rfl
  | k + 1, h => by
    show r_on a k + (n_bit a (nI k)).toInt32 = _
    rw [q_on a k (by omega), q_bitN a (show k < 64 by omega), p_cntS]
    have t : a.toBitVec.getLsbD k = decide (a.toBitVec.toNat / 2 ^ k % 2 = 1) := by
      rw [BitVec.getLsbD, Nat.testBit_eq_decide_div_mod_eq]
    rw [t]
    by_cases q : a.toBitVec.toNat / 2 ^ k % 2 = 1
    · rw [q, if_pos (by simp), show ((1 : Int64)).toInt32 = nI 1 from rfl, nI_add]
    · rw [show a.toBitVec.toNat / 2 ^ k % 2 = 0 by omega, if_neg (by simp), show ((0 : Int64)).toInt32 = nI 0 from rfl, nI_add]
/-! bitCount of an int and of a long, in these words -/
theorem o_sh {x : Int32} (s : Int32) (k : Nat) (hs : ((s.toUInt32 &&& Int32.toUInt32 31).toBitVec % 32).toNat = k) : (x.toUInt32 >>> (s.toUInt32 &&& Int32.toUInt32 31)).toInt32.toBitVec.toNat = x.toBitVec.toNat / 2 ^ k := pk_ushr x s k hs
theorem o_and (x y : Int32) : (x &&& y).toBitVec.toNat = (x.toBitVec.toNat &&& y.toBitVec.toNat) := by rw [Int32.toBitVec_and, BitVec.toNat_and]
theorem o_add {x y : Int32} (h : x.toBitVec.toNat + y.toBitVec.toNat < 4294967296) : (x + y).toBitVec.toNat = x.toBitVec.toNat + y.toBitVec.toNat := by
  rw [Int32.toBitVec_add, BitVec.toNat_add, Nat.mod_eq_of_lt h]
theorem o_sub {x y : Int32} (h : y.toBitVec.toNat ≤ x.toBitVec.toNat) : (x - y).toBitVec.toNat = x.toBitVec.toNat - y.toBitVec.toNat := by
  have hx := x.toBitVec.isLt
  rw [Int32.toBitVec_sub, BitVec.toNat_sub]
  omega
def o_1 (x : Int32) : Int32 := x - ((x.toUInt32 >>> ((1 : Int32).toUInt32 &&& Int32.toUInt32 31)).toInt32 &&& 1431655765)
def o_2 (x : Int32) : Int32 := (x &&& 858993459) + ((x.toUInt32 >>> ((2 : Int32).toUInt32 &&& Int32.toUInt32 31)).toInt32 &&& 858993459)
def o_3 (x : Int32) : Int32 := (x + (x.toUInt32 >>> ((4 : Int32).toUInt32 &&& Int32.toUInt32 31)).toInt32) &&& 252645135
def o_4 (x : Int32) : Int32 := x + (x.toUInt32 >>> ((8 : Int32).toUInt32 &&& Int32.toUInt32 31)).toInt32
def o_5 (x : Int32) : Int32 := x + (x.toUInt32 >>> ((16 : Int32).toUInt32 &&& Int32.toUInt32 31)).toInt32
theorem o_all (x : Int32) : n_ones32 x = o_5 (o_4 (o_3 (o_2 (o_1 x)))) &&& 63 := rfl
theorem o_ones (x : Int32) : (n_ones32 x).toBitVec.toNat = p_cnt 32 x.toBitVec.toNat := by
  have hx : x.toBitVec.toNat < 256 ^ 4 := x.toBitVec.isLt
  have m1 : (1431655765 : Int32).toBitVec.toNat = p_m 85 4 := by decide
  have m2 : (858993459 : Int32).toBitVec.toNat = p_m 51 4 := by decide
  have m3 : (252645135 : Int32).toBitVec.toNat = p_m 15 4 := by decide
  have h1 : (o_1 x).toBitVec.toNat = p_map p_t1 4 x.toBitVec.toNat := by
    have e : ((x.toUInt32 >>> ((1 : Int32).toUInt32 &&& Int32.toUInt32 31)).toInt32 &&& 1431655765).toBitVec.toNat = (x.toBitVec.toNat / 2 &&& p_m 85 4) := by
      rw [o_and, o_sh 1 1 (by decide), m1, Nat.pow_one]
    unfold o_1
    rw [o_sub (by rw [e]; exact Nat.le_trans Nat.and_le_left (Nat.div_le_self _ _)), e, p_l1 4 _ hx]
  have l1 := p_mapL p_b1 4 x.toBitVec.toNat
  have h2 : (o_2 (o_1 x)).toBitVec.toNat = p_map p_t2 4 (p_map p_t1 4 x.toBitVec.toNat) := by
    have e : ((o_1 x) &&& 858993459).toBitVec.toNat + (((o_1 x).toUInt32 >>> ((2 : Int32).toUInt32 &&& Int32.toUInt32 31)).toInt32 &&& 858993459).toBitVec.toNat = p_map p_t2 4 (p_map p_t1 4 x.toBitVec.toNat) := by
      rw [o_and, o_and, o_sh 2 2 (by decide), m2, h1, ← p_l2 4 _ l1]
    unfold o_2
    rw [o_add (by rw [e, p_map2 p_b1]; exact p_mapL p_b2 4 _), e]
  have l2 := p_mapL p_b2 4 x.toBitVec.toNat
  rw [← p_map2 p_b1] at l2
  have l3 : p_map p_t2 4 (p_map p_t1 4 x.toBitVec.toNat) ≤ 1145324612 := by
    rw [p_map2 p_b1]
    show p_t2 (p_t1 _) + 256 * (p_t2 (p_t1 _) + 256 * (p_t2 (p_t1 _) + 256 * (p_t2 (p_t1 _) + 256 * 0))) ≤ _
    have z : ∀ b, b < 256 → p_t2 (p_t1 b) ≤ 68 := by
      intro b hb
      have := p_b3 b hb
      have := p_b4 b hb
      omega
    have z1 := z (x.toBitVec.toNat % 256) (Nat.mod_lt _ (by decide))
    have z2 := z (x.toBitVec.toNat / 256 % 256) (Nat.mod_lt _ (by decide))
    have z3 := z (x.toBitVec.toNat / 256 / 256 % 256) (Nat.mod_lt _ (by decide))
    have z4 := z (x.toBitVec.toNat / 256 / 256 / 256 % 256) (Nat.mod_lt _ (by decide))
    omega
  have h3 : (o_3 (o_2 (o_1 x))).toBitVec.toNat = p_map (fun b => p_t3 (p_t2 (p_t1 b))) 4 x.toBitVec.toNat := by
    unfold o_3
    rw [o_and, o_add (by rw [o_sh 4 4 (by decide), h2]; omega), o_sh 4 4 (by decide), h2, m3]
    exact p_steps 4 _ hx
  have d : p_map (fun b => p_t3 (p_t2 (p_t1 b))) 4 x.toBitVec.toNat = p_8 (x.toBitVec.toNat % 256) + 256 * (p_8 (x.toBitVec.toNat / 256 % 256) + 256 * (p_8 (x.toBitVec.toNat / 256 / 256 % 256) + 256 * (p_8 (x.toBitVec.toNat / 256 / 256 / 256 % 256) + 256 * 0))) := by
    show p_t3 (p_t2 (p_t1 _)) + 256 * (p_t3 (p_t2 (p_t1 _)) + 256 * (p_t3 (p_t2 (p_t1 _)) + 256 * (p_t3 (p_t2 (p_t1 _)) + 256 * 0))) = _
    rw [p_b5 _ (Nat.mod_lt _ (by decide)), p_b5 _ (Nat.mod_lt _ (by decide)), p_b5 _ (Nat.mod_lt _ (by decide)), p_b5 _ (Nat.mod_lt _ (by decide))]
  have c : p_cnt 32 x.toBitVec.toNat = p_8 (x.toBitVec.toNat % 256) + (p_8 (x.toBitVec.toNat / 256 % 256) + (p_8 (x.toBitVec.toNat / 256 / 256 % 256) + (p_8 (x.toBitVec.toNat / 256 / 256 / 256 % 256) + 0))) := by
    rw [p_cnt8 24, p_cnt8 16, p_cnt8 8, p_cnt8 0]
    rfl
  rw [d] at h3
  rw [c]
  have z1 := p_b6 (x.toBitVec.toNat % 256) (Nat.mod_lt _ (by decide))
  have z2 := p_b6 (x.toBitVec.toNat / 256 % 256) (Nat.mod_lt _ (by decide))
  have z3 := p_b6 (x.toBitVec.toNat / 256 / 256 % 256) (Nat.mod_lt _ (by decide))
  have z4 := p_b6 (x.toBitVec.toNat / 256 / 256 / 256 % 256) (Nat.mod_lt _ (by decide))
  generalize p_8 (x.toBitVec.toNat % 256) = d0 at *
  generalize p_8 (x.toBitVec.toNat / 256 % 256) = d1 at *
  generalize p_8 (x.toBitVec.toNat / 256 / 256 % 256) = d2 at *
  generalize p_8 (x.toBitVec.toNat / 256 / 256 / 256 % 256) = d3 at *
  rw [o_all]
  generalize o_3 (o_2 (o_1 x)) = y at *
  have e4 : (o_4 y).toBitVec.toNat = y.toBitVec.toNat + y.toBitVec.toNat / 256 := by
    unfold o_4
    rw [o_add (by rw [o_sh 8 8 (by decide), h3]; omega), o_sh 8 8 (by decide)]
  have e5 : (o_5 (o_4 y)).toBitVec.toNat = (o_4 y).toBitVec.toNat + (o_4 y).toBitVec.toNat / 65536 := by
    unfold o_5
    rw [o_add (by rw [o_sh 16 16 (by decide), e4, h3]; omega), o_sh 16 16 (by decide)]
  rw [o_and, show (63 : Int32).toBitVec.toNat = 2 ^ 6 - 1 by decide, Nat.and_two_pow_sub_one_eq_mod, e5, e4, h3]
  clear h1 h2 h3 e4 e5 l1 l2 l3 d c m1 m2 m3 hx
  have f1 : (d0 + 256 * (d1 + 256 * (d2 + 256 * (d3 + 256 * 0)))) / 256 = d1 + 256 * d2 + 65536 * d3 := by omega
  rw [f1]
  have f2 : (d0 + 256 * (d1 + 256 * (d2 + 256 * (d3 + 256 * 0))) + (d1 + 256 * d2 + 65536 * d3)) / 65536 = d2 + d3 + 256 * d3 := by omega
  rw [f2]
  omega
theorem q_ones32 (a : Int64) : n_ones32 a.toInt32 = r_on a 32 := by
  rw [q_on a 32 (by decide)]
  apply Int32.toBitVec_inj.mp
  apply BitVec.eq_of_toNat_eq
  have hs : ∀ k n m : Nat, (∀ j, j < k → n / 2 ^ j % 2 = m / 2 ^ j % 2) → p_cnt k n = p_cnt k m := by
    intro k
    induction k with
    | zero => intro n m _; rfl
    | succ k ih =>
      intro n m h
      rw [p_cntS, p_cntS, ih n m (fun j hj => h j (by omega)), h k (by omega)]
  have hb : ∀ k n : Nat, p_cnt k n ≤ k := by
    intro k
    induction k with
    | zero => intro n; exact Nat.le_refl 0
    | succ k ih =>
      intro n
      show n % 2 + p_cnt k (n / 2) ≤ k + 1
      have := ih (n / 2)
      omega
  have h32 := hb 32 a.toBitVec.toNat
  rw [o_ones, pk_tn (by omega)]
  apply hs
  intro j hj
  rw [q_lowN]
  have h2 : (2 : Nat) ^ 32 = 2 ^ j * (2 * 2 ^ (31 - j)) := by
    rw [← Nat.mul_assoc, ← Nat.pow_succ, ← Nat.pow_add]
    congr 1
    omega
  rw [h2, Nat.mod_mul_right_div_self, Nat.mod_mul_right_mod]
theorem v_1 {L : Nat} (H : Nat) (hL : L < 4294967296) : (L + 4294967296 * H) / 256 = L / 256 + 16777216 * (H % 256) + 4294967296 * (H / 256) := by omega
theorem v_2 {L : Nat} (H : Nat) (hL : L < 4294967296) : (L + 4294967296 * H) / 65536 = L / 65536 + 65536 * (H % 65536) + 4294967296 * (H / 65536) := by omega
theorem v_3 {L : Nat} (H : Nat) (hL : L < 4294967296) : (L + 4294967296 * H) / 4294967296 = H := by omega
theorem v_4 {a b c d : Nat} (ha : a ≤ 8) (hb : b ≤ 8) (hc : c ≤ 8) (hd : d ≤ 8) : (a + 256 * (b + 256 * (c + 256 * d))) / 256 = b + 256 * (c + 256 * d) := by omega
theorem v_5 {a b c d : Nat} (ha : a ≤ 16) (hb : b ≤ 16) (hc : c ≤ 16) (hd : d ≤ 16) : (a + 256 * (b + 256 * (c + 256 * d))) / 65536 = c + 256 * d := by omega
theorem v_6 {a b c d : Nat} (ha : a ≤ 16) (hb : b ≤ 16) (hc : c ≤ 16) (hd : d ≤ 16) : (a + 256 * (b + 256 * (c + 256 * d))) % 65536 = a + 256 * b := by omega
theorem v_7 {a b c d : Nat} (ha : a ≤ 8) : (a + 256 * (b + 256 * (c + 256 * d))) % 256 = a := by omega
/-- eight digits, added up by the three last steps -/
theorem v_sum {d0 d1 d2 d3 d4 d5 d6 d7 y y4 y5 y6 : Nat} (z0 : d0 ≤ 8) (z1 : d1 ≤ 8) (z2 : d2 ≤ 8) (z3 : d3 ≤ 8) (z4 : d4 ≤ 8) (z5 : d5 ≤ 8) (z6 : d6 ≤ 8) (z7 : d7 ≤ 8)
    (h : y = (d0 + 256 * (d1 + 256 * (d2 + 256 * d3))) + 4294967296 * (d4 + 256 * (d5 + 256 * (d6 + 256 * d7)))) (h4 : y4 = y + y / 256) (h5 : y5 = y4 + y4 / 65536) (h6 : y6 = y5 + y5 / 4294967296) :
    y < 9223372036854775808 ∧ y4 < 9223372036854775808 ∧ y5 < 9223372036854775808 ∧ y6 % 4294967296 % 128 = d0 + (d1 + (d2 + (d3 + (d4 + (d5 + (d6 + (d7 + 0))))))) := by
  have e4 : y4 = ((d0 + d1) + 256 * ((d1 + d2) + 256 * ((d2 + d3) + 256 * (d3 + d4)))) + 4294967296 * ((d4 + d5) + 256 * ((d5 + d6) + 256 * ((d6 + d7) + 256 * d7))) := by
    rw [h4, h, v_1 _ (by omega), v_4 z0 z1 z2 z3, v_4 z4 z5 z6 z7, v_7 z4]
    omega
  have e5 : y5 = (((d0 + d1) + (d2 + d3)) + 256 * (((d1 + d2) + (d3 + d4)) + 256 * (((d2 + d3) + (d4 + d5)) + 256 * ((d3 + d4) + (d5 + d6))))) + 4294967296 * (((d4 + d5) + (d6 + d7)) + 256 * (((d5 + d6) + d7) + 256 * ((d6 + d7) + 256 * d7))) := by
    rw [h5, e4, v_2 _ (by omega), v_5 (by omega) (by omega) (by omega) (by omega), v_5 (by omega) (by omega) (by omega) (by omega), v_6 (by omega) (by omega) (by omega) (by omega)]
    omega
  refine ⟨by rw [h]; omega, by rw [e4]; omega, by rw [e5]; omega, ?_⟩
  rw [h6, e5, v_3 _ (by omega)]
  clear h h4 h5 h6 e4 e5
  omega
/-! the same of a long -/
theorem u_sh {x : Int64} {j : Nat} (h : j < 64) : (x.toUInt64 >>> ((nI j).toInt64.toUInt64 &&& Int64.toUInt64 63)).toInt64.toBitVec.toNat = x.toBitVec.toNat / 2 ^ j := q_ushrN x h
theorem u_and (x y : Int64) : (x &&& y).toBitVec.toNat = (x.toBitVec.toNat &&& y.toBitVec.toNat) := by rw [Int64.toBitVec_and, BitVec.toNat_and]
theorem u_add {x y : Int64} (h : x.toBitVec.toNat + y.toBitVec.toNat < 18446744073709551616) : (x + y).toBitVec.toNat = x.toBitVec.toNat + y.toBitVec.toNat := by
  rw [Int64.toBitVec_add, BitVec.toNat_add, Nat.mod_eq_of_lt h]
theorem u_sub {x y : Int64} (h : y.toBitVec.toNat ≤ x.toBitVec.toNat) : (x - y).toBitVec.toNat = x.toBitVec.toNat - y.toBitVec.toNat := by
  have hx := x.toBitVec.isLt
  rw [Int64.toBitVec_sub, BitVec.toNat_sub]
  omega
def u_s (x : Int64) (k : Int32) : Int64 := (x.toUInt64 >>> (k.toInt64.toUInt64 &&& Int64.toUInt64 63)).toInt64
theorem u_sN (x : Int64) {k : Int32} (j : Nat) (hj : j < 64) (e : k = nI j) : (u_s x k).toBitVec.toNat = x.toBitVec.toNat / 2 ^ j := by
  subst e
  exact q_ushrN x hj
def u_1 (x : Int64) : Int64 := x - (u_s x 1 &&& 6148914691236517205)
def u_2 (x : Int64) : Int64 := (x &&& 3689348814741910323) + (u_s x 2 &&& 3689348814741910323)
def u_3 (x : Int64) : Int64 := (x + u_s x 4) &&& 1085102592571150095
def u_4 (x : Int64) (k : Int32) : Int64 := x + u_s x k
theorem u_all (x : Int64) : n_ones64 x = (u_4 (u_4 (u_4 (u_3 (u_2 (u_1 x))) 8) 16) 32).toInt32 &&& 127 := rfl
theorem u_cntB : ∀ k n : Nat, p_cnt k n ≤ k
  | 0, _ => Nat.le_refl 0
  | k + 1, n => by
    show n % 2 + p_cnt k (n / 2) ≤ k + 1
    have := u_cntB k (n / 2)
    omega
set_option maxHeartbeats 4000000 in
theorem u_ones (x : Int64) : (n_ones64 x).toBitVec.toNat = p_cnt 64 x.toBitVec.toNat := by
  have hx : x.toBitVec.toNat < 256 ^ 8 := x.toBitVec.isLt
  have m1 : (6148914691236517205 : Int64).toBitVec.toNat = p_m 85 8 := by decide
  have m2 : (3689348814741910323 : Int64).toBitVec.toNat = p_m 51 8 := by decide
  have m3 : (1085102592571150095 : Int64).toBitVec.toNat = p_m 15 8 := by decide
  have h1 : (u_1 x).toBitVec.toNat = p_map p_t1 8 x.toBitVec.toNat := by
    have e : (u_s x 1 &&& 6148914691236517205).toBitVec.toNat = (x.toBitVec.toNat / 2 &&& p_m 85 8) := by
      rw [u_and, u_sN (k := 1) x 1 (by decide) rfl, m1, Nat.pow_one]
    unfold u_1
    rw [u_sub (by rw [e]; exact Nat.le_trans Nat.and_le_left (Nat.div_le_self _ _)), e, p_l1 8 _ hx]
  have l1 := p_mapL p_b1 8 x.toBitVec.toNat
  have h2 : (u_2 (u_1 x)).toBitVec.toNat = p_map p_t2 8 (p_map p_t1 8 x.toBitVec.toNat) := by
    have e : ((u_1 x) &&& 3689348814741910323).toBitVec.toNat + (u_s (u_1 x) 2 &&& 3689348814741910323).toBitVec.toNat = p_map p_t2 8 (p_map p_t1 8 x.toBitVec.toNat) := by
      rw [u_and, u_and, u_sN (k := 2) _ 2 (by decide) rfl, m2, h1, ← p_l2 8 _ l1]
    unfold u_2
    rw [u_add (by rw [e, p_map2 p_b1]; exact p_mapL p_b2 8 _), e]
  have z : ∀ b, b < 256 → p_t2 (p_t1 b) ≤ 68 := by
    intro b hb
    have := p_b3 b hb
    have := p_b4 b hb
    omega
  have l3 : p_map p_t2 8 (p_map p_t1 8 x.toBitVec.toNat) ≤ 4919131752989213764 := by
    rw [p_map2 p_b1]
    show p_t2 (p_t1 _) + 256 * (p_t2 (p_t1 _) + 256 * (p_t2 (p_t1 _) + 256 * (p_t2 (p_t1 _) + 256 * (p_t2 (p_t1 _) + 256 * (p_t2 (p_t1 _) + 256 * (p_t2 (p_t1 _) + 256 * (p_t2 (p_t1 _) + 256 * 0))))))) ≤ _
    have z0 := z (x.toBitVec.toNat % 256) (Nat.mod_lt _ (by decide))
    have z1 := z (x.toBitVec.toNat / 256 % 256) (Nat.mod_lt _ (by decide))
    have z2 := z (x.toBitVec.toNat / 256 / 256 % 256) (Nat.mod_lt _ (by decide))
    have z3 := z (x.toBitVec.toNat / 256 / 256 / 256 % 256) (Nat.mod_lt _ (by decide))
    have z4 := z (x.toBitVec.toNat / 256 / 256 / 256 / 256 % 256) (Nat.mod_lt _ (by decide))
    have z5 := z (x.toBitVec.toNat / 256 / 256 / 256 / 256 / 256 % 256) (Nat.mod_lt _ (by decide))
    have z6 := z (x.toBitVec.toNat / 256 / 256 / 256 / 256 / 256 / 256 % 256) (Nat.mod_lt _ (by decide))
    have z7 := z (x.toBitVec.toNat / 256 / 256 / 256 / 256 / 256 / 256 / 256 % 256) (Nat.mod_lt _ (by decide))
    omega
  have h3 : (u_3 (u_2 (u_1 x))).toBitVec.toNat = p_map (fun b => p_t3 (p_t2 (p_t1 b))) 8 x.toBitVec.toNat := by
    unfold u_3
    rw [u_and, u_add (by rw [u_sN (k := 4) _ 4 (by decide) rfl, h2]; omega), u_sN (k := 4) _ 4 (by decide) rfl, h2, m3]
    exact p_steps 8 _ hx
  have d : p_map (fun b => p_t3 (p_t2 (p_t1 b))) 8 x.toBitVec.toNat = p_8 (x.toBitVec.toNat % 256) + 256 * (p_8 (x.toBitVec.toNat / 256 % 256) + 256 * (p_8 (x.toBitVec.toNat / 256 / 256 % 256) + 256 * (p_8 (x.toBitVec.toNat / 256 / 256 / 256 % 256) + 256 * (p_8 (x.toBitVec.toNat / 256 / 256 / 256 / 256 % 256) + 256 * (p_8 (x.toBitVec.toNat / 256 / 256 / 256 / 256 / 256 % 256) + 256 * (p_8 (x.toBitVec.toNat / 256 / 256 / 256 / 256 / 256 / 256 % 256) + 256 * (p_8 (x.toBitVec.toNat / 256 / 256 / 256 / 256 / 256 / 256 / 256 % 256) + 256 * 0))))))) := by
    show p_t3 (p_t2 (p_t1 _)) + 256 * (p_t3 (p_t2 (p_t1 _)) + 256 * (p_t3 (p_t2 (p_t1 _)) + 256 * (p_t3 (p_t2 (p_t1 _)) + 256 * (p_t3 (p_t2 (p_t1 _)) + 256 * (p_t3 (p_t2 (p_t1 _)) + 256 * (p_t3 (p_t2 (p_t1 _)) + 256 * (p_t3 (p_t2 (p_t1 _)) + 256 * 0))))))) = _
    rw [p_b5 _ (Nat.mod_lt _ (by decide)), p_b5 _ (Nat.mod_lt _ (by decide)), p_b5 _ (Nat.mod_lt _ (by decide)), p_b5 _ (Nat.mod_lt _ (by decide)), p_b5 _ (Nat.mod_lt _ (by decide)), p_b5 _ (Nat.mod_lt _ (by decide)), p_b5 _ (Nat.mod_lt _ (by decide)), p_b5 _ (Nat.mod_lt _ (by decide))]
  have c : p_cnt 64 x.toBitVec.toNat = p_8 (x.toBitVec.toNat % 256) + (p_8 (x.toBitVec.toNat / 256 % 256) + (p_8 (x.toBitVec.toNat / 256 / 256 % 256) + (p_8 (x.toBitVec.toNat / 256 / 256 / 256 % 256) + (p_8 (x.toBitVec.toNat / 256 / 256 / 256 / 256 % 256) + (p_8 (x.toBitVec.toNat / 256 / 256 / 256 / 256 / 256 % 256) + (p_8 (x.toBitVec.toNat / 256 / 256 / 256 / 256 / 256 / 256 % 256) + (p_8 (x.toBitVec.toNat / 256 / 256 / 256 / 256 / 256 / 256 / 256 % 256) + 0))))))) := by
    rw [p_cnt8 56, p_cnt8 48, p_cnt8 40, p_cnt8 32, p_cnt8 24, p_cnt8 16, p_cnt8 8, p_cnt8 0]
    rfl
  rw [d] at h3
  rw [c]
  have z0 := p_b6 (x.toBitVec.toNat % 256) (Nat.mod_lt _ (by decide))
  have z1 := p_b6 (x.toBitVec.toNat / 256 % 256) (Nat.mod_lt _ (by decide))
  have z2 := p_b6 (x.toBitVec.toNat / 256 / 256 % 256) (Nat.mod_lt _ (by decide))
  have z3 := p_b6 (x.toBitVec.toNat / 256 / 256 / 256 % 256) (Nat.mod_lt _ (by decide))
  have z4 := p_b6 (x.toBitVec.toNat / 256 / 256 / 256 / 256 % 256) (Nat.mod_lt _ (by decide))
  have z5 := p_b6 (x.toBitVec.toNat / 256 / 256 / 256 / 256 / 256 % 256) (Nat.mod_lt _ (by decide))
  have z6 := p_b6 (x.toBitVec.toNat / 256 / 256 / 256 / 256 / 256 / 256 % 256) (Nat.mod_lt _ (by decide))
  have z7 := p_b6 (x.toBitVec.toNat / 256 / 256 / 256 / 256 / 256 / 256 / 256 % 256) (Nat.mod_lt _ (by decide))
  generalize p_8 (x.toBitVec.toNat % 256) = d0 at *
  generalize p_8 (x.toBitVec.toNat / 256 % 256) = d1 at *
  generalize p_8 (x.toBitVec.toNat / 256 / 256 % 256) = d2 at *
  generalize p_8 (x.toBitVec.toNat / 256 / 256 / 256 % 256) = d3 at *
  generalize p_8 (x.toBitVec.toNat / 256 / 256 / 256 / 256 % 256) = d4 at *
  generalize p_8 (x.toBitVec.toNat / 256 / 256 / 256 / 256 / 256 % 256) = d5 at *
  generalize p_8 (x.toBitVec.toNat / 256 / 256 / 256 / 256 / 256 / 256 % 256) = d6 at *
  generalize p_8 (x.toBitVec.toNat / 256 / 256 / 256 / 256 / 256 / 256 / 256 % 256) = d7 at *
  rw [u_all]
  generalize u_3 (u_2 (u_1 x)) = y at *
  clear h1 h2 l1 l3 d c m1 m2 m3 hx z
  have hy : y.toBitVec.toNat = (d0 + 256 * (d1 + 256 * (d2 + 256 * d3))) + 4294967296 * (d4 + 256 * (d5 + 256 * (d6 + 256 * d7))) := by rw [h3]; omega
  obtain ⟨b0, b4, b5, s⟩ := v_sum z0 z1 z2 z3 z4 z5 z6 z7 hy rfl rfl rfl
  clear h3 hy z0 z1 z2 z3 z4 z5 z6 z7
  have e4 : (u_4 y 8).toBitVec.toNat = y.toBitVec.toNat + y.toBitVec.toNat / 256 := by
    unfold u_4
    rw [u_add (by rw [u_sN (k := 8) _ 8 (by decide) rfl]; omega), u_sN (k := 8) _ 8 (by decide) rfl]
  rw [← e4] at b4 b5 s
  have e5 : (u_4 (u_4 y 8) 16).toBitVec.toNat = (u_4 y 8).toBitVec.toNat + (u_4 y 8).toBitVec.toNat / 65536 := by
    generalize u_4 y 8 = y4 at *
    unfold u_4
    rw [u_add (by rw [u_sN (k := 16) _ 16 (by decide) rfl]; omega), u_sN (k := 16) _ 16 (by decide) rfl]
  rw [← e5] at b5 s
  have e6 : (u_4 (u_4 (u_4 y 8) 16) 32).toBitVec.toNat = (u_4 (u_4 y 8) 16).toBitVec.toNat + (u_4 (u_4 y 8) 16).toBitVec.toNat / 4294967296 := by
    generalize u_4 (u_4 y 8) 16 = y5 at *
    unfold u_4
    rw [u_add (by rw [u_sN (k := 32) _ 32 (by decide) rfl]; omega), u_sN (k := 32) _ 32 (by decide) rfl]
  rw [← e6] at s
  rw [o_and, show (127 : Int32).toBitVec.toNat = 2 ^ 7 - 1 by decide, Nat.and_two_pow_sub_one_eq_mod, q_lowN]
  exact s
theorem q_ones64 (a : Int64) : n_ones64 a = r_on a 64 := by
  rw [q_on a 64 (by decide)]
  apply Int32.toBitVec_inj.mp
  apply BitVec.eq_of_toNat_eq
  have h := u_cntB 64 a.toBitVec.toNat
  rw [u_ones, pk_tn (by omega)]
theorem q_oness (w : Int32) (a b : Int64) : n_apply 12 w a b = r_special 6 w a 0 := by
  have e : n_one 12 w a = if w = 0 then (n_ones32 a.toInt32).toInt64 else (n_ones64 a).toInt64 := rfl
  show (if w = 0 then (n_one 12 w a).toInt32.toInt64 else n_one 12 w a) = (r_on a (r_B w)).toInt64
  by_cases hw : w = 0
  · rw [if_pos hw, e, if_pos hw, hw, Int32.toInt32_toInt64, q_ones32]
    rfl
  · rw [if_neg hw, e, if_neg hw, q_ones64, show r_B w = 64 from if_neg hw]
/-! what the law compares of the bench: the class's answer is the reference's -/
theorem qx_kind {k : Int32} (h0 : ¬ k < 0) (h1 : ¬ 4 < k) : n_isKind k = 1 := by simp [n_isKind, h0, h1]
theorem qx_w1 {o k T : Int32} {a b : Int64} (h0 : ¬ o < 0) (h1 : ¬ 10 < o) (hz : ¬ ((o = 3 ∨ o = 4) ∧ b = 0)) (hT : q_sign o = T) : n_cut k (n_combine o 1 a b) = n_cut k (r_two T 1 a b) := by
  subst hT
  rw [q_two1 (by decide) h0 h1 hz]
theorem qx_w0 {o k r T : Int32} {a b : Int64} (h0 : ¬ o < 0) (h1 : ¬ 10 < o) (k0 : ¬ k < 0) (k1 : ¬ 4 < k) (k4 : ¬ k = 4) (r0 : ¬ r < 0) (r1 : ¬ 4 < r) (r4 : o < 8 → ¬ r = 4) (hz : ¬ ((o = 3 ∨ o = 4) ∧ n_cut r b = 0)) (hT : q_sign o = T) : n_cut k (n_combine o 0 (n_cut k a) (n_cut r b)) = n_cut k (r_two T 0 (n_cut k a) (n_cut r b)) := by
  subst hT
  rw [q_two0 h0 h1 (q_I_cut k4 (qx_kind k0 k1) a) (fun q => q_I_cut (r4 q) (qx_kind r0 r1) b) hz]
def q_cmp (o : Int32) : Int32 := if o = 0 then 217 else if o = 1 then 218 else if o = 2 then 238 else if o = 3 then 219 else if o = 4 then 239 else 220
theorem qx_in {o : Int32} {n m : Int} (h0 : n ≤ o.toInt) (h1 : o.toInt ≤ m) : n ≤ o.toInt ∧ o.toInt ≤ m := ⟨h0, h1⟩
theorem qx_a {o w T : Int32} {a b : Int64} (h0 : ¬ o < 0) (h1 : ¬ 6 ≤ o) (hT : q_cmp o = T) : n_apply o w a b = r_two T 1 a b := by
  subst hT
  have a1 := iyB (n := 0) (Int32.not_lt.mp h0) (by decide)
  have a2 := ixA (n := 6) (Int32.not_le.mp h1) (by decide)
  have hI : o.toInt = 0 ∨ o.toInt = 1 ∨ o.toInt = 2 ∨ o.toInt = 3 ∨ o.toInt = 4 ∨ o.toInt = 5 := by omega
  rcases hI with q | q | q | q | q | q
  · obtain rfl : o = 0 := Int32.toInt_inj.mp (q.trans (by decide))
    rfl
  · obtain rfl : o = 1 := Int32.toInt_inj.mp (q.trans (by decide))
    rfl
  · obtain rfl : o = 2 := Int32.toInt_inj.mp (q.trans (by decide))
    rfl
  · obtain rfl : o = 3 := Int32.toInt_inj.mp (q.trans (by decide))
    rfl
  · obtain rfl : o = 4 := Int32.toInt_inj.mp (q.trans (by decide))
    rfl
  · obtain rfl : o = 5 := Int32.toInt_inj.mp (q.trans (by decide))
    rfl
theorem qx_b {o w : Int32} {a b : Int64} (h0 : 6 ≤ o) (h1 : ¬ 8 ≤ o) : n_apply o w a b = r_special (o - 5) 1 a b := by
  have a1 := iyB (n := 6) h0 (by decide)
  have a2 := ixA (n := 8) (Int32.not_le.mp h1) (by decide)
  rcases (show o.toInt = 6 ∨ o.toInt = 7 by omega) with q | q
  · obtain rfl : o = 6 := Int32.toInt_inj.mp (q.trans (by decide))
    exact (show n_apply 6 w a b = n_apply 6 1 a b from rfl).trans (q_min 1 a b)
  · obtain rfl : o = 7 := Int32.toInt_inj.mp (q.trans (by decide))
    exact (show n_apply 7 w a b = n_apply 7 1 a b from rfl).trans (q_max 1 a b)
theorem qx_c0 {o : Int32} {a b : Int64} (h0 : 8 ≤ o) (h1 : ¬ 10 ≤ o) : n_apply o 0 a b = r_special (o - 5) 0 a b := by
  have a1 := iyB (n := 8) h0 (by decide)
  have a2 := ixA (n := 10) (Int32.not_le.mp h1) (by decide)
  rcases (show o.toInt = 8 ∨ o.toInt = 9 by omega) with q | q
  · obtain rfl : o = 8 := Int32.toInt_inj.mp (q.trans (by decide))
    exact q_rol0 a b
  · obtain rfl : o = 9 := Int32.toInt_inj.mp (q.trans (by decide))
    exact q_ror0 a b
theorem qx_c1 {o : Int32} {a b : Int64} (h0 : 8 ≤ o) (h1 : ¬ 10 ≤ o) : n_apply o 1 a b = r_special (o - 5) 1 a b := by
  have a1 := iyB (n := 8) h0 (by decide)
  have a2 := ixA (n := 10) (Int32.not_le.mp h1) (by decide)
  rcases (show o.toInt = 8 ∨ o.toInt = 9 by omega) with q | q
  · obtain rfl : o = 8 := Int32.toInt_inj.mp (q.trans (by decide))
    exact q_rol1 (by decide) a b
  · obtain rfl : o = 9 := Int32.toInt_inj.mp (q.trans (by decide))
    exact q_ror1 (by decide) a b
theorem qx_d {o w : Int32} {a b : Int64} (h : o = 10) : n_apply o w a b = r_special 0 w a 0 := by
  subst h
  exact q_abs w a b
theorem qx_e {o w : Int32} {a b : Int64} (h0 : 10 ≤ o) (hn : ¬ o = 10) (h1 : ¬ 14 ≤ o) : n_apply o w a b = r_special (o - 6) w a 0 := by
  have a1 := iyB (n := 10) h0 (by decide)
  have a2 := ixA (n := 14) (Int32.not_le.mp h1) (by decide)
  rcases (show o.toInt = 10 ∨ o.toInt = 11 ∨ o.toInt = 12 ∨ o.toInt = 13 by omega) with q | q | q | q
  · exact absurd (Int32.toInt_inj.mp (q.trans (by decide))) hn
  · obtain rfl : o = 11 := Int32.toInt_inj.mp (q.trans (by decide))
    exact q_rev w a b
  · obtain rfl : o = 12 := Int32.toInt_inj.mp (q.trans (by decide))
    exact q_oness w a b
  · obtain rfl : o = 13 := Int32.toInt_inj.mp (q.trans (by decide))
    exact q_leads w a b
theorem qx_s0 {o : Int32} {a b : Int64} (h : ∀ j : Int32, j ∈ [0, 1, 2, 3, 4, 5, 6, 7, 8, 9] → ¬ o = j) : n_apply o 0 a b = (n_one o 0 a).toInt32.toInt64 := by
  unfold n_apply
  rw [if_neg (h 0 (by decide)), if_neg (h 1 (by decide)), if_neg (h 2 (by decide)), if_neg (h 3 (by decide)), if_neg (h 4 (by decide)), if_neg (h 5 (by decide)), if_neg (h 6 (by decide)), if_neg (h 7 (by decide)), if_neg (h 8 (by decide)), if_neg (h 9 (by decide))]
  exact if_pos rfl
theorem qx_s1 {o : Int32} {a b : Int64} (h : ∀ j : Int32, j ∈ [0, 1, 2, 3, 4, 5, 6, 7, 8, 9] → ¬ o = j) : n_apply o 1 a b = n_one o 1 a := by
  unfold n_apply
  rw [if_neg (h 0 (by decide)), if_neg (h 1 (by decide)), if_neg (h 2 (by decide)), if_neg (h 3 (by decide)), if_neg (h 4 (by decide)), if_neg (h 5 (by decide)), if_neg (h 6 (by decide)), if_neg (h 7 (by decide)), if_neg (h 8 (by decide)), if_neg (h 9 (by decide))]
  exact if_neg (by decide)
theorem qx_f0 {o : Int32} {a b : Int64} (h : o = 14) : n_apply o 0 a b = r_worked 0 (-a) := by
  subst h
  rw [qx_s0 (by decide), q_worked0]
  rfl
theorem qx_f1 {o : Int32} {a b : Int64} (h : o = 14) : n_apply o 1 a b = r_worked 1 (-a) := by
  subst h
  rw [qx_s1 (by decide), q_worked1 (by decide)]
  rfl
theorem qx_g1 {o : Int32} {a b : Int64} (h : o = 15) : n_apply o 1 a b = a ^^^ (-1) := by
  subst h
  rw [qx_s1 (by decide)]
  rfl
theorem qx_g0 {o : Int32} {a b : Int64} (h : o = 15) (ha : q_I a) : n_apply o 0 a b = a ^^^ (-1) := by
  subst h
  rw [qx_s0 (by decide)]
  exact q_I_xor ha (by unfold q_I; decide)
theorem qx_16 {o : Int32} (h0 : 14 ≤ o) (h1 : ¬ 16 < o) (n4 : ¬ o = 14) (n5 : ¬ o = 15) : o = 16 := by
  have a1 := iyB (n := 14) h0 (by decide)
  have a2 := ixL (n := 16) (Int32.not_lt.mp h1) (by decide)
  rcases (show o.toInt = 14 ∨ o.toInt = 15 ∨ o.toInt = 16 by omega) with q | q | q
  · exact absurd (Int32.toInt_inj.mp (q.trans (by decide))) n4
  · exact absurd (Int32.toInt_inj.mp (q.trans (by decide))) n5
  · exact Int32.toInt_inj.mp (q.trans (by decide))
theorem qx_h1 {o w : Int32} {a b : Int64} (h : o = 16) (hw : w = 0 ∨ w = 1) (ha : a = 0) : n_apply o w a b = 1 := by
  subst h; subst ha
  rcases hw with rfl | rfl
  · rw [qx_s0 (by decide)]; decide
  · rw [qx_s1 (by decide)]; decide
theorem qx_h0 {o w : Int32} {a b : Int64} (h : o = 16) (hw : w = 0 ∨ w = 1) (ha : ¬ a = 0) : n_apply o w a b = 0 := by
  subst h
  rcases hw with rfl | rfl
  · rw [qx_s0 (by decide), show n_one 16 0 a = (if a = 0 then 1 else 0) from rfl, if_neg ha]; decide
  · rw [qx_s1 (by decide), show n_one 16 1 a = (if a = 0 then 1 else 0) from rfl, if_neg ha]
theorem qx_Icut {k : Int32} (k0 : ¬ k < 0) (k1 : ¬ 4 < k) (k4 : ¬ k = 4) (v : Int64) : q_I (n_cut k v) := q_I_cut k4 (qx_kind k0 k1) v
/-! Runs: numbers of both are the same. -/
def VK (b : Int32) (z : Int64) : Prop := ¬ b = 4 → i32 z
theorem qI_of {z : Int64} (h : i32 z) : q_I z := (q_I_iff z).mpr h
theorem vk_3 (x : Int32) : VK 3 x.toInt64 := fun _ => i32_I x
theorem vk_4 (z : Int64) : VK 4 z := fun q => absurd rfl q
theorem vk_0 {b : Int32} : VK b 0 := fun _ => i32_0
theorem vk_1 {b : Int32} : VK b 1 := fun _ => i32_1
theorem nw01 (o a b : Int32) : n_wide o a b = 0 ∨ n_wide o a b = 1 := by
  unfold n_wide
  split
  · exact Or.inr rfl
  · split
    · exact Or.inl rfl
    · split
      · exact Or.inr rfl
      · exact Or.inl rfl
/-- left op right -/
theorem vb_o {o a b : Int32} {x y : Int64} (h0 : ¬ o < 0) (h1 : ¬ 10 < o) (hx : VK a x) (hy : VK b y) (hz : ¬ (y = 0 ∧ ¬ n_divides o = 0)) : n_combine o (n_wide o a b) x y = r_two (q_sign o) (n_wide o a b) x y ∧ VK (if n_wide o a b = 0 then 3 else 4) (n_combine o (n_wide o a b) x y) := by
  have hz' : ¬ ((o = 3 ∨ o = 4) ∧ y = 0) := fun q => hz ⟨q.2, by unfold n_divides; rw [if_pos q.1]; decide⟩
  rcases nw01 o a b with w | w
  · have na : ¬ a = 4 := fun q => by unfold n_wide at w; rw [if_pos q] at w; exact absurd w (by decide)
    have nb : o < 8 → ¬ b = 4 := fun q8 q => by
      unfold n_wide at w
      rw [if_neg na, if_neg (Int32.not_le.mpr q8), if_pos q] at w
      exact absurd w (by decide)
    rw [w, if_pos rfl]
    refine ⟨q_two0 h0 h1 (qI_of (hx na)) (fun q => qI_of (hy (nb q))) hz', ?_⟩
    unfold n_combine
    rw [if_pos rfl]
    exact vk_3 _
  · rw [w, if_neg (by decide)]
    exact ⟨q_two1 (by decide) h0 h1 hz', vk_4 _⟩
theorem sg_op {s t : Int32} (h : SRe s t) (h3 : ¬ cS s < 3) (hc : cmC s = -1) : ¬ opC s < 0 ∧ ¬ 10 < opC s ∧ q_sign (opC s) = t := (show ∀ p ∈ prs, ¬ cS p.1 < 3 → cmC p.1 = -1 → ¬ opC p.1 < 0 ∧ ¬ 10 < opC p.1 ∧ q_sign (opC p.1) = p.2 by decide +kernel) (s, t) h h3 hc
theorem sg_cm {s t : Int32} (h : SRe s t) (h3 : ¬ cS s < 3) (hc : ¬ cmC s = -1) : (cmC s = 0 ∧ t = 217) ∨ (cmC s = 1 ∧ t = 218) ∨ (cmC s = 2 ∧ t = 238) ∨ (cmC s = 3 ∧ t = 219) ∨ (cmC s = 4 ∧ t = 239) ∨ (cmC s = 5 ∧ t = 220) := (show ∀ p ∈ prs, ¬ cS p.1 < 3 → ¬ cmC p.1 = -1 → (cmC p.1 = 0 ∧ p.2 = 217) ∨ (cmC p.1 = 1 ∧ p.2 = 218) ∨ (cmC p.1 = 2 ∧ p.2 = 238) ∨ (cmC p.1 = 3 ∧ p.2 = 219) ∨ (cmC p.1 = 4 ∧ p.2 = 239) ∨ (cmC p.1 = 5 ∧ p.2 = 220) by decide +kernel) (s, t) h h3 hc
theorem v01' {b : Int32} {P : Prop} {d : Decidable P} : VK b (if P then 1 else 0) := by
  split
  · exact vk_1
  · exact vk_0
theorem v10' {b : Int32} {P : Prop} {d : Decidable P} : VK b (if P then 0 else 1) := by
  split
  · exact vk_0
  · exact vk_1
theorem vb_cm {s t w w' : Int32} {x y : Int64} (h : SRe s t) (h3 : ¬ cS s < 3) (hc : ¬ cmC s = -1) : n_apply (cmC s) w x y = r_two t w' x y ∧ VK 3 (n_apply (cmC s) w x y) := by
  rcases sg_cm h h3 hc with ⟨a, b⟩ | ⟨a, b⟩ | ⟨a, b⟩ | ⟨a, b⟩ | ⟨a, b⟩ | ⟨a, b⟩ <;> rw [a, b]
  · exact ⟨rfl, v01' (P := x = y)⟩
  · exact ⟨rfl, v10' (P := x = y)⟩
  · exact ⟨rfl, v10' (P := y ≤ x)⟩
  · exact ⟨rfl, v10' (P := y < x)⟩
  · exact ⟨rfl, v10' (P := x ≤ y)⟩
  · exact ⟨rfl, v10' (P := x < y)⟩
/-- - ~ ! -/
theorem v1_m {w : Int32} {x : Int64} (hw : w = 0 ∨ w = 1) : n_apply 14 w x 0 = r_worked w (-x) ∧ VK (if w = 0 then 3 else 4) (n_apply 14 w x 0) := by
  rcases hw with rfl | rfl
  · refine ⟨qx_f0 rfl, ?_⟩
    rw [qx_f0 rfl, q_worked0, if_pos rfl]
    exact vk_3 _
  · exact ⟨qx_f1 rfl, by rw [if_neg (by decide)]; exact vk_4 _⟩
theorem v1_i {w : Int32} {x : Int64} (hw : w = 0 ∨ w = 1) (hx : w = 0 → i32 x) : n_apply 15 w x 0 = x ^^^ (-1) ∧ VK (if w = 0 then 3 else 4) (n_apply 15 w x 0) := by
  rcases hw with rfl | rfl
  · refine ⟨qx_g0 rfl (qI_of (hx rfl)), ?_⟩
    rw [qx_s0 (by decide), if_pos rfl]
    exact vk_3 _
  · exact ⟨qx_g1 rfl, by rw [if_neg (by decide)]; exact vk_4 _⟩
theorem v1_n {w : Int32} {x : Int64} (hw : w = 0 ∨ w = 1) : n_apply 16 w x 0 = (if x = 0 then 1 else 0) ∧ VK 3 (n_apply 16 w x 0) := by
  by_cases q : x = 0
  · rw [if_pos q, qx_h1 rfl hw q]; exact ⟨rfl, vk_1⟩
  · rw [if_neg q, qx_h0 rfl hw q]; exact ⟨rfl, vk_0⟩
/-! the eight -/
def op8 (e : Int32) : Int32 := if e = 0 then 10 else if e < 5 then e + 5 else e + 6
theorem v8_2 {e w : Int32} {x y : Int64} (he : e = 1 ∨ e = 2 ∨ e = 3 ∨ e = 4) (hw : w = 0 ∨ w = 1) (hx : w = 0 → i32 x) (hy : w = 0 → (e = 1 ∨ e = 2) → i32 y) : n_apply (op8 e) w x y = r_special e w x y ∧ VK (if w = 0 then 3 else 4) (n_apply (op8 e) w x y) := by
  have w4 : ∀ z, w = 1 → VK (if w = 0 then 3 else 4) z := fun z q => by rw [q, if_neg (by decide)]; exact vk_4 _
  rcases he with rfl | rfl | rfl | rfl
  · refine ⟨q_min w x y, ?_⟩
    rcases hw with q | q
    · rw [q, if_pos rfl]
      show VK 3 (if y < x then y else x)
      split
      · exact fun _ => hy q (Or.inl rfl)
      · exact fun _ => hx q
    · exact w4 _ q
  · refine ⟨q_max w x y, ?_⟩
    rcases hw with q | q
    · rw [q, if_pos rfl]
      show VK 3 (if x < y then y else x)
      split
      · exact fun _ => hy q (Or.inr rfl)
      · exact fun _ => hx q
    · exact w4 _ q
  · rcases hw with q | q
    · rw [q, if_pos rfl]
      exact ⟨q_rol0 x y, vk_3 (n_turn x.toInt32 y.toInt32)⟩
    · exact ⟨q_rol1 (by rw [q]; decide) x y, w4 _ q⟩
  · rcases hw with q | q
    · rw [q, if_pos rfl]
      exact ⟨q_ror0 x y, vk_3 (n_turn x.toInt32 (-y.toInt32))⟩
    · exact ⟨q_ror1 (by rw [q]; decide) x y, w4 _ q⟩
theorem v8_1 {e w : Int32} {x : Int64} (he : e = 0 ∨ e = 5 ∨ e = 6 ∨ e = 7) (hw : w = 0 ∨ w = 1) : n_apply (op8 e) w x 0 = r_special e w x 0 ∧ VK (if w = 0 then 3 else if 6 ≤ e then 3 else 4) (n_apply (op8 e) w x 0) := by
  have z0 : ∀ o : Int32, (∀ j : Int32, j ∈ [0, 1, 2, 3, 4, 5, 6, 7, 8, 9] → ¬ o = j) → VK 3 (n_apply o 0 x 0) := fun o h => by
    rw [qx_s0 h]
    exact vk_3 _
  rcases he with rfl | rfl | rfl | rfl
  · refine ⟨q_abs w x 0, ?_⟩
    rcases hw with q | q
    · rw [q, if_pos rfl]; exact z0 10 (by decide)
    · rw [q, if_neg (by decide), if_neg (by decide)]; exact vk_4 _
  · refine ⟨q_rev w x 0, ?_⟩
    rcases hw with q | q
    · rw [q, if_pos rfl]; exact z0 11 (by decide)
    · rw [q, if_neg (by decide), if_neg (by decide)]; exact vk_4 _
  · refine ⟨q_oness w x 0, ?_⟩
    rcases hw with q | q
    · rw [q, if_pos rfl]; exact z0 12 (by decide)
    · rw [q, if_neg (by decide), if_pos (by decide)]
      show VK 3 (n_ones64 x).toInt64
      exact vk_3 _
  · refine ⟨q_leads w x 0, ?_⟩
    rcases hw with q | q
    · rw [q, if_pos rfl]; exact z0 13 (by decide)
    · rw [q, if_neg (by decide), if_pos (by decide)]
      show VK 3 (nI (n_ld x 64 64 0)).toInt64
      exact vk_3 _
/-- a bit that is read -/
theorem sh63 (z : Int64) {j : Nat} (hj : j < 64) : (z.toUInt64 >>> ((nI j).toInt64.toUInt64 &&& Int64.toUInt64 63)).toInt64 &&& 1 = (z >>> ((nI j).toInt64 &&& 63)) &&& 1 := by
  have h1 : ∀ y : Int64, (y &&& 1).toInt = ((y.toBitVec.toNat % 2 : Nat) : Int) := fun y => q_and y 1 1 (by decide) (by decide)
  refine Int64.toInt_inj.mp ?_
  rw [h1, h1, q_ushrN z hj]
  have e := q_shrT z hj
  have n1 := q_nat (z >>> ((nI j).toInt64 &&& 63))
  have n0 := q_nat z
  have l1 := q_lt (z >>> ((nI j).toInt64 &&& 63))
  have l0 := q_lt z
  generalize (z >>> ((nI j).toInt64 &&& 63)).toBitVec.toNat = A at n1 l1 ⊢
  generalize z.toBitVec.toNat = B at n0 l0 ⊢
  rw [e, n0, Int.shiftRight_eq_div_pow] at n1
  have hp : (2 : Int) ^ j ∣ 18446744073709551616 := by
    refine ⟨(2 : Int) ^ (64 - j), ?_⟩
    rw [← Int.pow_add, show j + (64 - j) = 64 by omega]
    rfl
  obtain ⟨q, hq⟩ := hp
  have p0 : (0 : Int) < (2 : Int) ^ j := Int.pow_pos (by decide)
  have pn : (((2 ^ j : Nat)) : Int) = (2 : Int) ^ j := by simp
  have key : ∀ b : Int, (b - 18446744073709551616) / (2 : Int) ^ j = b / (2 : Int) ^ j - q := by
    intro b
    rw [hq, show b - (2 : Int) ^ j * q = b + (2 : Int) ^ j * (-q) by rw [Int.mul_neg]; omega, Int.add_mul_ediv_left _ _ (by omega)]
    omega
  have q2 : q % 2 = 0 := by
    have e1 : q = (2 : Int) ^ (64 - j) := by
      have : (2 : Int) ^ j * q = (2 : Int) ^ j * (2 : Int) ^ (64 - j) := by
        rw [← hq, ← Int.pow_add, show j + (64 - j) = 64 by omega]
        rfl
      exact Int.eq_of_mul_eq_mul_left (by omega) this
    rw [e1, show 64 - j = (63 - j) + 1 by omega, Int.pow_succ]
    omega
  have ed : ((B / 2 ^ j : Nat) : Int) = (B : Int) / (2 : Int) ^ j := by rw [Int.natCast_ediv, pn]
  have k1 := key B
  rw [← ed] at k1
  generalize B / 2 ^ j = D at ed k1 ⊢
  by_cases c1 : 2 * B < 18446744073709551616
  · rw [if_pos c1, pn, ← ed] at n1
    split at n1 <;> omega
  · rw [if_neg c1, pn, k1] at n1
    split at n1 <;> omega
