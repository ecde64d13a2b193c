/-! shifts -/
theorem q_s5 : ∀ j : Nat, j < 32 → ((nI j &&& 31).toBitVec.smod 32).toNat = j := by decide +kernel
theorem q_s6 : ∀ j : Nat, j < 64 → (((nI j).toInt64 &&& 63).toBitVec.smod 64).toNat = j := by decide +kernel
theorem q_u5 : ∀ j : Nat, j < 32 → (((nI j).toUInt32 &&& Int32.toUInt32 31).toBitVec % 32).toNat = j := by decide +kernel
theorem q_u6 : ∀ j : Nat, j < 64 → (((nI j).toInt64.toUInt64 &&& Int64.toUInt64 63).toBitVec % 64).toNat = j := by decide +kernel
theorem q_n31 : ∀ j : Nat, j < 32 → nI j &&& 31 = nI j := by decide +kernel
theorem q_n63 : ∀ j : Nat, j < 64 → nI j &&& 63 = nI j := by decide +kernel
theorem q_by5 (b : Int64) : ∃ j : Nat, j < 32 ∧ (b &&& 31).toInt32 = nI j ∧ b.toInt32 &&& 31 = nI j := by
  obtain ⟨j, h1, h2⟩ := pk_andE b.toInt32 (m := 31) 5 (by decide)
  exact ⟨j, h1, by rw [Int64.toInt32_and]; exact h2, h2⟩
theorem q_by6 (b : Int64) : ∃ j : Nat, j < 64 ∧ (b &&& 63).toInt32 = nI j ∧ b.toInt32 &&& 63 = nI j := by
  obtain ⟨j, h1, h2⟩ := pk_andE b.toInt32 (m := 63) 6 (by decide)
  exact ⟨j, h1, by rw [Int64.toInt32_and]; exact h2, h2⟩
theorem q_lowN (a : Int64) : a.toInt32.toBitVec.toNat = a.toBitVec.toNat % 2 ^ 32 := by
  rw [Int64.toBitVec_toInt32, BitVec.signExtend_eq_setWidth_of_le _ (by decide), BitVec.toNat_setWidth]
theorem q_shlN (a : Int64) {j : Nat} (h : j < 64) : (a <<< ((nI j).toInt64 &&& 63)).toBitVec.toNat = a.toBitVec.toNat * 2 ^ j % 2 ^ 64 := by
  rw [Int64.toBitVec_shiftLeft, BitVec.shiftLeft_eq', q_s6 j h, BitVec.toNat_shiftLeft, Nat.shiftLeft_eq]
theorem q_shl (a : Int64) {j : Nat} (h : j < 32) : (a <<< ((nI j).toInt64 &&& 63)).toInt32 = a.toInt32 <<< (nI j &&& 31) := by
  apply Int32.toBitVec_inj.mp
  apply BitVec.eq_of_toNat_eq
  rw [q_lowN, q_shlN a (by omega), pk_shl _ _ j (q_s5 j h), q_lowN, Nat.mod_mod_of_dvd _ (by decide), Nat.mod_mul_mod]
theorem q_shrT (a : Int64) {j : Nat} (h : j < 64) : (a >>> ((nI j).toInt64 &&& 63)).toInt = a.toInt >>> j := by
  show (a >>> ((nI j).toInt64 &&& 63)).toBitVec.toInt = _
  rw [Int64.toBitVec_shiftRight, BitVec.sshiftRight', q_s6 j h, BitVec.toInt_sshiftRight]
  rfl
theorem q_shr {a : Int64} (ha : q_I a) {j : Nat} (h : j < 32) : (a.toInt32 >>> (nI j &&& 31)).toInt64 = a >>> ((nI j).toInt64 &&& 63) := by
  apply Int64.toInt_inj.mp
  rw [q_shrT a (by omega), Int32.toInt_toInt64, pk_shr _ _ j (q_s5 j h)]
  have e : a.toInt32.toInt = a.toInt := by rw [← Int32.toInt_toInt64, ha]
  rw [e]
theorem q_ushrN (a : Int64) {j : Nat} (h : j < 64) : (a.toUInt64 >>> ((nI j).toInt64.toUInt64 &&& Int64.toUInt64 63)).toInt64.toBitVec.toNat = a.toBitVec.toNat / 2 ^ j := by
  show (a.toUInt64 >>> ((nI j).toInt64.toUInt64 &&& Int64.toUInt64 63)).toBitVec.toNat = _
  rw [UInt64.toBitVec_shiftRight, BitVec.ushiftRight_eq', q_u6 j h, BitVec.toNat_ushiftRight, Nat.shiftRight_eq_div_pow]
  rfl
theorem q_ushr (a : Int64) {j : Nat} (h : j < 32) : (((a &&& 4294967295).toUInt64 >>> ((nI j).toInt64.toUInt64 &&& Int64.toUInt64 63)).toInt64).toInt32 = (a.toInt32.toUInt32 >>> ((nI j).toUInt32 &&& Int32.toUInt32 31)).toInt32 := by
  apply Int32.toBitVec_inj.mp
  apply BitVec.eq_of_toNat_eq
  rw [q_lowN, q_ushrN _ (by omega), pk_ushr _ _ j (q_u5 j h), q_lowN]
  have e : (a &&& 4294967295).toBitVec.toNat = a.toBitVec.toNat % 2 ^ 32 := by
    rw [Int64.toBitVec_and, BitVec.toNat_and, show (4294967295 : Int64).toBitVec.toNat = 2 ^ 32 - 1 by decide, Nat.and_two_pow_sub_one_eq_mod]
  rw [e]
  exact Nat.mod_eq_of_lt (Nat.lt_of_le_of_lt (Nat.div_le_self _ _) (Nat.mod_lt _ (by decide)))
theorem q_ushr0 (a : Int64) : a.toInt32 = (a.toInt32.toUInt32 >>> ((nI 0).toUInt32 &&& Int32.toUInt32 31)).toInt32 := by
  apply Int32.toBitVec_inj.mp
  apply BitVec.eq_of_toNat_eq
  rw [pk_ushr _ _ 0 (q_u5 0 (by decide)), Nat.pow_zero, Nat.div_one]
theorem q_wushr0 (a : Int64) : (a.toUInt64 >>> ((nI 0).toInt64.toUInt64 &&& Int64.toUInt64 63)).toInt64 = a := by
  apply Int64.toBitVec_inj.mp
  apply BitVec.eq_of_toNat_eq
  rw [q_ushrN _ (by decide), Nat.pow_zero, Nat.div_one]
theorem q_andm1 (a : Int64) : a &&& (-1) = a := by
  apply Int64.toBitVec_inj.mp
  rw [Int64.toBitVec_and, show (-1 : Int64).toBitVec = BitVec.allOnes 64 by decide, BitVec.and_allOnes]
/-- what the reference's sign is of an operation that work() numbers -/
def q_sign (o : Int32) : Int32 := if o = 0 then 240 else if o = 1 then 241 else if o = 2 then 242 else if o = 3 then 243 else if o = 4 then 244 else if o = 5 then 237 else if o = 6 then 235 else if o = 7 then 236 else if o = 8 then 221 else if o = 9 then 222 else 203
theorem q_ops {o : Int32} (h0 : ¬ o < 0) (h1 : ¬ 10 < o) : o = 0 ∨ o = 1 ∨ o = 2 ∨ o = 3 ∨ o = 4 ∨ o = 5 ∨ o = 6 ∨ o = 7 ∨ o = 8 ∨ o = 9 ∨ o = 10 := by
  have a1 := mt Int32.lt_iff_toInt_lt.mpr h0
  have b1 := mt Int32.lt_iff_toInt_lt.mpr h1
  rw [show (0 : Int32).toInt = 0 by decide] at a1
  rw [show (10 : Int32).toInt = 10 by decide] at b1
  have go : ∀ n : Int32, o.toInt = n.toInt → o = n := fun n q => Int32.toInt_inj.mp q
  rcases (show o.toInt = 0 ∨ o.toInt = 1 ∨ o.toInt = 2 ∨ o.toInt = 3 ∨ o.toInt = 4 ∨ o.toInt = 5 ∨ o.toInt = 6 ∨ o.toInt = 7 ∨ o.toInt = 8 ∨ o.toInt = 9 ∨ o.toInt = 10 by omega) with q | q | q | q | q | q | q | q | q | q | q
  · exact Or.inl (go 0 q)
  · exact Or.inr (Or.inl (go 1 q))
  · exact Or.inr (Or.inr (Or.inl (go 2 q)))
  · exact Or.inr (Or.inr (Or.inr (Or.inl (go 3 q))))
  · exact Or.inr (Or.inr (Or.inr (Or.inr (Or.inl (go 4 q)))))
  · exact Or.inr (Or.inr (Or.inr (Or.inr (Or.inr (Or.inl (go 5 q))))))
  · exact Or.inr (Or.inr (Or.inr (Or.inr (Or.inr (Or.inr (Or.inl (go 6 q)))))))
  · exact Or.inr (Or.inr (Or.inr (Or.inr (Or.inr (Or.inr (Or.inr (Or.inl (go 7 q))))))))
  · exact Or.inr (Or.inr (Or.inr (Or.inr (Or.inr (Or.inr (Or.inr (Or.inr (Or.inl (go 8 q)))))))))
  · exact Or.inr (Or.inr (Or.inr (Or.inr (Or.inr (Or.inr (Or.inr (Or.inr (Or.inr (Or.inl (go 9 q))))))))))
  · exact Or.inr (Or.inr (Or.inr (Or.inr (Or.inr (Or.inr (Or.inr (Or.inr (Or.inr (Or.inr (go 10 q))))))))))
/-- WORKED as int: the class's combine and the reference's reckoned are one -/
theorem q_two0 {o : Int32} (h0 : ¬ o < 0) (h1 : ¬ 10 < o) {a b : Int64} (ha : q_I a) (hb : o < 8 → q_I b) (hz : ¬ ((o = 3 ∨ o = 4) ∧ b = 0)) : n_combine o 0 a b = r_two (q_sign o) 0 a b := by
  rcases q_ops h0 h1 with rfl | rfl | rfl | rfl | rfl | rfl | rfl | rfl | rfl | rfl | rfl
  · show (a + b).toInt32.toInt64 = r_worked 0 (a + b)
    rw [q_worked0]
  · show (a - b).toInt32.toInt64 = r_worked 0 (a - b)
    rw [q_worked0]
  · show (a * b).toInt32.toInt64 = r_worked 0 (a * b)
    rw [q_worked0]
  · have hb0 : ¬ b = 0 := fun q => hz ⟨Or.inl rfl, q⟩
    show (if b = 0 then 0 else a / b).toInt32.toInt64 = r_worked 0 (if b = -1 then -a else a / b)
    rw [q_worked0, q_div, if_neg hb0]
  · have hb0 : ¬ b = 0 := fun q => hz ⟨Or.inr rfl, q⟩
    show (if b = 0 then 0 else a - a / b * b).toInt32.toInt64 = (if b = -1 then 0 else a - a / b * b)
    rw [if_neg hb0]
    by_cases hm : b = -1
    · rw [q_rem, hm, q_divm1, show -a * (-1) = a by rw [Int64.mul_neg, Int64.neg_mul, Int64.neg_neg, Int64.mul_one], Int64.sub_self]
      rfl
    · rw [if_neg hm]
      exact q_I_rem ha hm
  · exact q_I_and ha (hb (by decide))
  · exact q_I_or ha (hb (by decide))
  · exact q_I_xor ha (hb (by decide))
  · obtain ⟨j, hj, e1, e2⟩ := q_by5 b
    show ((a.toInt32 <<< ((b.toInt32 &&& 31) &&& 31)).toInt64).toInt32.toInt64 = r_worked 0 (a <<< (((b &&& 31).toInt32).toInt64 &&& 63))
    rw [q_worked0, e1, e2, q_shl a hj, Int32.toInt32_toInt64]
  · obtain ⟨j, hj, e1, e2⟩ := q_by5 b
    show ((a.toInt32 >>> ((b.toInt32 &&& 31) &&& 31)).toInt64).toInt32.toInt64 = a >>> (((b &&& 31).toInt32).toInt64 &&& 63)
    rw [e1, e2, Int32.toInt32_toInt64, q_shr ha hj]
  · obtain ⟨j, hj, e1, e2⟩ := q_by5 b
    have hby : r_by 0 b = nI j := by rw [← e1]; exact if_pos rfl
    have hR : r_two (q_sign 10) 0 a b = r_worked 0 (if r_by 0 b = 0 then a else ((a &&& r_low 0).toUInt64 >>> ((r_by 0 b).toInt64.toUInt64 &&& Int64.toUInt64 63)).toInt64) := if_pos rfl
    rw [hR, show r_low 0 = 4294967295 from if_pos rfl, hby]
    show (((a.toInt32.toUInt32 >>> ((b.toInt32 &&& 31).toUInt32 &&& Int32.toUInt32 31)).toInt32).toInt64).toInt32.toInt64 = _
    rw [q_worked0, e2, Int32.toInt32_toInt64]
    by_cases h : nI j = 0
    · rw [if_pos h, show j = 0 from (nI_eq (by omega) (by decide)).mp (h.trans nI_0.symm), ← q_ushr0]
    · rw [if_neg h, q_ushr a hj]
/-- WORKED as long -/
theorem q_two1 {o w : Int32} (hw : ¬ w = 0) (h0 : ¬ o < 0) (h1 : ¬ 10 < o) {a b : Int64} (hz : ¬ ((o = 3 ∨ o = 4) ∧ b = 0)) : n_combine o w a b = r_two (q_sign o) w a b := by
  rw [show n_combine o w a b = n_all o w a b from if_neg hw]
  rcases q_ops h0 h1 with rfl | rfl | rfl | rfl | rfl | rfl | rfl | rfl | rfl | rfl | rfl
  · exact (q_worked1 hw _).symm
  · exact (q_worked1 hw _).symm
  · exact (q_worked1 hw _).symm
  · have hb0 : ¬ b = 0 := fun q => hz ⟨Or.inl rfl, q⟩
    show (if b = 0 then 0 else a / b) = r_worked w (if b = -1 then -a else a / b)
    rw [q_worked1 hw, q_div, if_neg hb0]
  · have hb0 : ¬ b = 0 := fun q => hz ⟨Or.inr rfl, q⟩
    show (if b = 0 then 0 else a - a / b * b) = (if b = -1 then 0 else a - a / b * b)
    rw [if_neg hb0, q_rem]
  · rfl
  · rfl
  · rfl
  · obtain ⟨j, hj, e1, e2⟩ := q_by6 b
    have hby : r_by w b = nI j := by rw [← e1]; exact if_neg hw
    show (if w = 0 then _ else n_wshift 8 a b) = r_worked w (a <<< ((r_by w b).toInt64 &&& 63))
    rw [if_neg hw, q_worked1 hw, hby]
    show a <<< ((b.toInt32 &&& 63).toInt64 &&& 63) = _
    rw [e2]
  · obtain ⟨j, hj, e1, e2⟩ := q_by6 b
    have hby : r_by w b = nI j := by rw [← e1]; exact if_neg hw
    show (if w = 0 then _ else n_wshift 9 a b) = a >>> ((r_by w b).toInt64 &&& 63)
    rw [if_neg hw, hby]
    show a >>> ((b.toInt32 &&& 63).toInt64 &&& 63) = _
    rw [e2]
  · obtain ⟨j, hj, e1, e2⟩ := q_by6 b
    have hby : r_by w b = nI j := by rw [← e1]; exact if_neg hw
    show (if w = 0 then _ else n_wshift 10 a b) = r_worked w (if r_by w b = 0 then a else ((a &&& r_low w).toUInt64 >>> ((r_by w b).toInt64.toUInt64 &&& Int64.toUInt64 63)).toInt64)
    rw [if_neg hw, q_worked1 hw, hby, show r_low w = -1 from if_neg hw, q_andm1]
    show (a.toUInt64 >>> ((b.toInt32 &&& 63).toInt64.toUInt64 &&& Int64.toUInt64 63)).toInt64 = _
    rw [e2]
    by_cases h : nI j = 0
    · rw [if_pos h, show j = 0 from (nI_eq (by omega) (by decide)).mp (h.trans nI_0.symm), q_wushr0]
    · rw [if_neg h]
