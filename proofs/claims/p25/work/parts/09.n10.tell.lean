/-! rol and ror, class and reference -/
theorem q_k31 (k : Int32) : k &&& 31 = nI (k.toBitVec.toNat % 32) := pk_and k (m := 31) 5 (by decide)
theorem q_k63 (k : Int32) : k &&& 63 = nI (k.toBitVec.toNat % 64) := pk_and k (m := 63) 6 (by decide)
theorem q_kS (k : Int32) : ((k &&& 31).toBitVec.smod 32).toNat = k.toBitVec.toNat % 32 := by
  have h : k.toBitVec.toNat % 32 < 32 := Nat.mod_lt _ (by decide)
  rw [q_k31, ← q_n31 _ h, q_s5 _ h]
theorem q_negN (k : Int32) : (-k).toBitVec.toNat = (4294967296 - k.toBitVec.toNat) % 4294967296 := by
  rw [Int32.toBitVec_neg, BitVec.toNat_neg]
theorem q_u5b : ∀ j : Nat, j < 32 → (((nI j).toUInt32).toBitVec % 32).toNat = j := by decide +kernel
theorem q_u6b : ∀ j : Nat, j < 64 → (((nI j).toInt64.toUInt64).toBitVec % 64).toNat = j := by decide +kernel
theorem q_w63 : ∀ j : Nat, j < 64 → (nI j).toInt64 &&& 63 = (nI j).toInt64 := by decide +kernel
theorem q_kU (k : Int32) : (((-k).toUInt32 &&& Int32.toUInt32 31).toBitVec % 32).toNat = (32 - k.toBitVec.toNat % 32) % 32 := by
  have e : (-k).toUInt32 &&& Int32.toUInt32 31 = (nI ((-k).toBitVec.toNat % 32)).toUInt32 := by
    rw [← q_k31, Int32.toUInt32_and]
  have hk := k.toBitVec.isLt
  rw [e, q_u5b _ (Nat.mod_lt _ (by decide)), q_negN]
  omega
theorem q_kSW (k : Int32) : ((k.toInt64 &&& 63).toBitVec.smod 64).toNat = k.toBitVec.toNat % 64 := by
  have h : k.toBitVec.toNat % 64 < 64 := Nat.mod_lt _ (by decide)
  have e : k.toInt64 &&& 63 = (nI (k.toBitVec.toNat % 64)).toInt64 &&& 63 := by
    rw [q_w63 _ h, ← q_k63, Int32.toInt64_and]
    rfl
  rw [e, q_s6 _ h]
theorem q_kUW (k : Int32) : (((-k).toInt64.toUInt64 &&& Int64.toUInt64 63).toBitVec % 64).toNat = (64 - k.toBitVec.toNat % 64) % 64 := by
  have e : (-k).toInt64.toUInt64 &&& Int64.toUInt64 63 = (nI ((-k).toBitVec.toNat % 64)).toInt64.toUInt64 := by
    rw [← q_k63, Int32.toInt64_and, Int64.toUInt64_and]
    rfl
  have hk := k.toBitVec.isLt
  rw [e, q_u6b _ (Nat.mod_lt _ (by decide)), q_negN]
  omega
theorem q_rt (a : Int64) (k : Int32) : n_turn a.toInt32 k = (r_tn (nI 32) a (k.toBitVec.toNat % 32)).toInt32 := q_turn a k (Nat.mod_lt _ (by decide)) (q_kS k) (q_kU k)
theorem q_rtW (a : Int64) (k : Int32) : n_turnW a k = r_tn (nI 64) a (k.toBitVec.toNat % 64) := q_turnW a k (Nat.mod_lt _ (by decide)) (q_kSW k) (q_kUW k)
theorem q_by0 (b : Int64) : r_byB 0 b = nI (b.toInt32.toBitVec.toNat % 32) := by
  rw [← q_k31]
  show (b &&& 31).toInt32 = _
  rw [Int64.toInt32_and]
  rfl
theorem q_by1 {w : Int32} (hw : ¬ w = 0) (b : Int64) : r_byB w b = nI (b.toInt32.toBitVec.toNat % 64) := by
  rw [← q_k63]
  unfold r_byB r_B
  rw [if_neg hw]
  show (b &&& 63).toInt32 = _
  rw [Int64.toInt32_and]
  rfl
theorem q_sp3 (w : Int32) (a b : Int64) : r_special 3 w a b = r_worked w (r_tn (nI (r_B w)) a (r_byB w b).toNatClampNeg) := by
  unfold r_special
  rw [if_neg (by decide), if_neg (by decide), if_neg (by decide), if_neg (by decide), show r_up 3 w b = r_byB w b from if_pos rfl]
theorem q_sp4 (w : Int32) (a b : Int64) : r_special 4 w a b = r_worked w (r_tn (nI (r_B w)) a (r_up 4 w b).toNatClampNeg) := by
  unfold r_special
  rw [if_neg (by decide), if_neg (by decide), if_neg (by decide), if_neg (by decide)]
theorem q_ap8 (a b : Int64) : n_apply 8 0 a b = (n_turn a.toInt32 b.toInt32).toInt64 := by
  unfold n_apply
  rw [if_neg (by decide), if_neg (by decide), if_neg (by decide), if_neg (by decide), if_neg (by decide), if_neg (by decide), if_neg (by decide), if_neg (by decide), if_pos rfl, if_pos rfl]
theorem q_ap9 (a b : Int64) : n_apply 9 0 a b = (n_turn a.toInt32 (-b.toInt32)).toInt64 := by
  unfold n_apply
  rw [if_neg (by decide), if_neg (by decide), if_neg (by decide), if_neg (by decide), if_neg (by decide), if_neg (by decide), if_neg (by decide), if_neg (by decide), if_neg (by decide), if_pos rfl, if_pos rfl]
theorem q_rol0 (a b : Int64) : n_apply 8 0 a b = r_special 3 0 a b := by
  have h : b.toInt32.toBitVec.toNat % 32 < 32 := Nat.mod_lt _ (by decide)
  rw [q_ap8, q_sp3, q_worked0, q_by0, nI_clamp (by omega), q_rt, show r_B 0 = 32 from if_pos rfl]
theorem q_rol1 {w : Int32} (hw : ¬ w = 0) (a b : Int64) : n_apply 8 w a b = r_special 3 w a b := by
  show (if w = 0 then _ else n_turnW a b.toInt32) = r_worked w (r_tn (nI (r_B w)) a (r_byB w b).toNatClampNeg)
  have h : b.toInt32.toBitVec.toNat % 64 < 64 := Nat.mod_lt _ (by decide)
  rw [if_neg hw, q_worked1 hw, q_by1 hw, nI_clamp (by omega), q_rtW, show r_B w = 64 from if_neg hw]
theorem q_up0 (b : Int64) : r_up 4 0 b = nI ((32 - b.toInt32.toBitVec.toNat % 32) % 32) := by
  have h : b.toInt32.toBitVec.toNat % 32 < 32 := Nat.mod_lt _ (by decide)
  show (nI 32 - r_byB 0 b) - (nI 32 - r_byB 0 b) / nI 32 * nI 32 = _
  rw [q_by0, pk_sub (by omega), pk_rem (by omega) (by omega) (by omega)]
theorem q_up1 {w : Int32} (hw : ¬ w = 0) (b : Int64) : r_up 4 w b = nI ((64 - b.toInt32.toBitVec.toNat % 64) % 64) := by
  have h : b.toInt32.toBitVec.toNat % 64 < 64 := Nat.mod_lt _ (by decide)
  show (nI (r_B w) - r_byB w b) - (nI (r_B w) - r_byB w b) / nI (r_B w) * nI (r_B w) = _
  rw [q_by1 hw, show r_B w = 64 from if_neg hw, pk_sub (by omega), pk_rem (by omega) (by omega) (by omega)]
theorem q_neg32 (k : Int32) : (-k).toBitVec.toNat % 32 = (32 - k.toBitVec.toNat % 32) % 32 := by
  have hk := k.toBitVec.isLt
  rw [q_negN]
  omega
theorem q_neg64 (k : Int32) : (-k).toBitVec.toNat % 64 = (64 - k.toBitVec.toNat % 64) % 64 := by
  have hk := k.toBitVec.isLt
  rw [q_negN]
  omega
theorem q_ror0 (a b : Int64) : n_apply 9 0 a b = r_special 4 0 a b := by
  rw [q_ap9, q_sp4, q_worked0, q_up0, nI_clamp (by omega), q_rt, q_neg32, show r_B 0 = 32 from if_pos rfl]
theorem q_ror1 {w : Int32} (hw : ¬ w = 0) (a b : Int64) : n_apply 9 w a b = r_special 4 w a b := by
  show (if w = 0 then _ else n_turnW a (-b.toInt32)) = r_worked w (r_tn (nI (r_B w)) a (r_up 4 w b).toNatClampNeg)
  rw [if_neg hw, q_worked1 hw, q_up1 hw, nI_clamp (by omega), q_rtW, q_neg64, show r_B w = 64 from if_neg hw]
/-! min, max -/
theorem q_min (w : Int32) (a b : Int64) : n_apply 6 w a b = r_special 1 w a b := by
  show (if b < a then b else a) = (if b ≤ a then b else a)
  by_cases h : b < a
  · rw [if_pos h, if_pos (Int64.le_of_lt h)]
  · by_cases h2 : b ≤ a
    · rw [if_neg h, if_pos h2]
      exact Int64.le_antisymm (Int64.not_lt.mp h) h2
    · rw [if_neg h, if_neg h2]
theorem q_max (w : Int32) (a b : Int64) : n_apply 7 w a b = r_special 2 w a b := by
  show (if a < b then b else a) = (if a ≤ b then b else a)
  by_cases h : a < b
  · rw [if_pos h, if_pos (Int64.le_of_lt h)]
  · by_cases h2 : a ≤ b
    · rw [if_neg h, if_pos h2]
      exact Int64.le_antisymm h2 (Int64.not_lt.mp h)
    · rw [if_neg h, if_neg h2]
/-! abs, rev, lead, - and the like -/
theorem q_abs (w : Int32) (a b : Int64) : n_apply 10 w a b = r_special 0 w a 0 := by
  show (if w = 0 then (if 0 ≤ a then a else -a).toInt32.toInt64 else (if 0 ≤ a then a else -a)) = r_worked w (if 0 ≤ a then a else -a)
  by_cases hw : w = 0
  · rw [if_pos hw, hw, q_worked0]
  · rw [if_neg hw, q_worked1 hw]
theorem q_rev (w : Int32) (a b : Int64) : n_apply 11 w a b = r_special 5 w a 0 := by
  show (if w = 0 then (n_one 11 w a).toInt32.toInt64 else n_one 11 w a) = r_worked w (n_rv a (r_B w))
  have e : n_one 11 w a = if w = 0 then n_rv a 32 else n_rv a 64 := rfl
  by_cases hw : w = 0
  · rw [if_pos hw, e, if_pos hw, hw, q_worked0]
    rfl
  · rw [if_neg hw, e, if_neg hw, q_worked1 hw, show r_B w = 64 from if_neg hw]
theorem q_leads (w : Int32) (a b : Int64) : n_apply 13 w a b = r_special 7 w a 0 := by
  have e : n_one 13 w a = if w = 0 then (nI (n_ld a 32 32 0)).toInt64 else (nI (n_ld a 64 64 0)).toInt64 := rfl
  show (if w = 0 then (n_one 13 w a).toInt32.toInt64 else n_one 13 w a) = (r_ah a (r_B w)).toInt64
  by_cases hw : w = 0
  · rw [if_pos hw, e, if_pos hw, hw, Int32.toInt32_toInt64, q_lead a 32 (by decide)]
    rfl
  · rw [if_neg hw, e, if_neg hw, q_lead a 64 (by decide), show r_B w = 64 from if_neg hw]
