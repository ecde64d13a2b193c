/-! the class's numbers and the reference's are the same -/
theorem q_and (v : Int64) (k : Nat) (m : Int64) (hk : k ≤ 32) (hm : m.toBitVec.toNat = 2 ^ k - 1) : (v &&& m).toInt = ((v.toBitVec.toNat % 2 ^ k : Nat) : Int) := by
  have e1 : (v &&& m).toBitVec.toNat = v.toBitVec.toNat % 2 ^ k := by
    rw [Int64.toBitVec_and, BitVec.toNat_and, hm, Nat.and_two_pow_sub_one_eq_mod]
  have h2 : v.toBitVec.toNat % 2 ^ k < 2 ^ 32 := Nat.lt_of_lt_of_le (Nat.mod_lt _ (Nat.two_pow_pos k)) (Nat.pow_le_pow_right (by decide) hk)
  show (v &&& m).toBitVec.toInt = _
  rw [BitVec.toInt_eq_toNat_of_lt (by rw [e1]; omega), e1]
theorem q_nat (v : Int64) : v.toInt = if 2 * v.toBitVec.toNat < 18446744073709551616 then (v.toBitVec.toNat : Int) else (v.toBitVec.toNat : Int) - 18446744073709551616 := by
  show v.toBitVec.toInt = _
  rw [BitVec.toInt_eq_toNat_cond]
  rfl
theorem q_lt (v : Int64) : v.toBitVec.toNat < 18446744073709551616 := v.toBitVec.isLt
theorem q_cut0 (v : Int64) : v.toInt32.toInt8.toInt32.toInt64 = if v &&& 255 ≤ 127 then v &&& 255 else (v &&& 255) - 256 := by
  have e := q_and v 8 255 (by decide) (by decide)
  have n := q_nat v
  have hl := q_lt v
  have l : (v.toInt32.toInt8.toInt32.toInt64).toInt = v.toInt.bmod 256 := by
    simp only [Int32.toInt_toInt64, Int8.toInt_toInt32, Int32.toInt_toInt8, Int64.toInt_toInt32]
    exact Int.bmod_bmod_of_dvd (by decide)
  have h127 : (127 : Int64).toInt = 127 := by decide
  have h256 : (256 : Int64).toInt = 256 := by decide
  apply Int64.toInt_inj.mp
  rw [l, Int.bmod_def]
  by_cases h : v &&& 255 ≤ 127
  · have h1 := Int64.le_iff_toInt_le.mp h
    rw [if_pos h, e]
    rw [e, h127] at h1
    split at n <;> split <;> omega
  · have h1 := mt Int64.le_iff_toInt_le.mpr h
    rw [if_neg h, Int64.toInt_sub, e]
    rw [e, h127] at h1
    rw [h256, Int.bmod_def]
    split at n <;> split <;> split <;> omega
theorem q_cut1 (v : Int64) : v.toInt32.toInt16.toInt32.toInt64 = if v &&& 65535 ≤ 32767 then v &&& 65535 else (v &&& 65535) - 65536 := by
  have e := q_and v 16 65535 (by decide) (by decide)
  have n := q_nat v
  have hl := q_lt v
  have l : (v.toInt32.toInt16.toInt32.toInt64).toInt = v.toInt.bmod 65536 := by
    simp only [Int32.toInt_toInt64, Int16.toInt_toInt32, Int32.toInt_toInt16, Int64.toInt_toInt32]
    exact Int.bmod_bmod_of_dvd (by decide)
  have h127 : (32767 : Int64).toInt = 32767 := by decide
  have h256 : (65536 : Int64).toInt = 65536 := by decide
  apply Int64.toInt_inj.mp
  rw [l, Int.bmod_def]
  by_cases h : v &&& 65535 ≤ 32767
  · have h1 := Int64.le_iff_toInt_le.mp h
    rw [if_pos h, e]
    rw [e, h127] at h1
    split at n <;> split <;> omega
  · have h1 := mt Int64.le_iff_toInt_le.mpr h
    rw [if_neg h, Int64.toInt_sub, e]
    rw [e, h127] at h1
    rw [h256, Int.bmod_def]
    split at n <;> split <;> split <;> omega
theorem q_cut3 (v : Int64) : v.toInt32.toInt64 = if v &&& 4294967295 ≤ 2147483647 then v &&& 4294967295 else (v &&& 4294967295) - 4294967296 := by
  have e := q_and v 32 4294967295 (by decide) (by decide)
  have n := q_nat v
  have hl := q_lt v
  have l : (v.toInt32.toInt64).toInt = v.toInt.bmod 4294967296 := by
    simp only [Int32.toInt_toInt64, Int64.toInt_toInt32]
  have h127 : (2147483647 : Int64).toInt = 2147483647 := by decide
  have h256 : (4294967296 : Int64).toInt = 4294967296 := by decide
  apply Int64.toInt_inj.mp
  rw [l, Int.bmod_def]
  by_cases h : v &&& 4294967295 ≤ 2147483647
  · have h1 := Int64.le_iff_toInt_le.mp h
    rw [if_pos h, e]
    rw [e, h127] at h1
    split at n <;> split <;> omega
  · have h1 := mt Int64.le_iff_toInt_le.mpr h
    rw [if_neg h, Int64.toInt_sub, e]
    rw [e, h127] at h1
    rw [h256, Int.bmod_def]
    split at n <;> split <;> split <;> omega
theorem q_cut (k : Int32) (v : Int64) : r_cut k v = n_cut k v := by
  unfold r_cut n_cut
  rw [q_cut0, q_cut1, q_cut3]
/-- cut: class and reference answer alike -/
theorem cut_same {N M : Nat} {l1 : Int32} {l2 r : Int64} {u w : RSt} {v c : CSt} {y : Sum Nat Int64} (h : F_cut N l1 l2 u = some (r, w)) (hc : F_X11_cut M l1 l2 v = some (y, c)) : (y = .inl 1 ∧ w.1 9 = 1) ∨ (y = .inr r ∧ w.1 9 = 0) := by
  have e : n_isKind l1 = r_in l1 0 4 := rfl
  unfold F_cut B_cut_0 F_areKinds B_areKinds_0 B_areKinds_27 B_areKinds_28 at h
  unfold F_X11_cut B_X11_cut_0 at hc
  rw [e] at hc
  by_cases q : r_in l1 0 4 = 0
  · rw [if_pos q] at hc h
    left
    have h1 : (if (1 : Int32) = 0 then some ((1 : Int32), sI u 9 1) else some (0, sI u 9 1)) = some (0, sI u 9 1) := if_neg (by decide)
    have h2 : some ((0 : Int64), sI u 9 1) = some (r, w) := h
    have hw : sI u 9 1 = w := congrArg Prod.snd (Option.some.inj h2)
    exact ⟨(congrArg Prod.fst (Option.some.inj hc)).symm, by rw [← hw]; rfl⟩
  · rw [if_neg q] at hc h
    right
    rw [if_neg q, if_neg (by decide : ¬ (1 : Int32) = 0)] at h
    have h2 : some (r_cut l1 l2, sI u 9 0) = some (r, w) := h
    have hr := congrArg Prod.fst (Option.some.inj h2)
    have hw := congrArg Prod.snd (Option.some.inj h2)
    dsimp only at hr hw
    refine ⟨?_, by rw [← hw]; rfl⟩
    rw [← hr, q_cut]
    exact (congrArg Prod.fst (Option.some.inj hc)).symm
