/-! bitCount of an int and of a long, in these words -/
theorem o_sh {x : Int32} (s : Int32) (k : Nat) (hs : ((s.toUInt32 &&& Int32.toUInt32 31).toBitVec % 32).toNat = k) : (x.toUInt32 >>> (s.toUInt32 &&& Int32.toUInt32 31)).toInt32.toBitVec.toNat = x.toBitVec.toNat / 2 ^ k := pk_ushr x s k hs
theorem o_and (x y : Int32) : (x &&& y).toBitVec.toNat = (x.toBitVec.toNat &&& y.toBitVec.toNat) := by rw [Int32.toBitVec_and, BitVec.toNat_and]
theorem o_add {x y : Int32} (h : x.toBitVec.toNat + y.toBitVec.toNat < 4294967296) : (x + y).toBitVec.toNat = x.toBitVec.toNat + y.toBitVec.toNat := by
  rw [Int32.toBitVec_add, BitVec.toNat_add, Nat.mod_eq_of_lt h]
theorem o_sub {x y : Int32} (h : y.toBitVec.toNat ≤ x.toBitVec.toNat) : (x - y).toBitVec.toNat = x.toBitVec.toNat - y.toBitVec.toNat := by
  have hx := x.toBitVec.isLt
  rw [Int32.toBitVec_sub, BitVec.toNat_sub]
  omega
def o_1 (x : Int32) : Int32 := x - ((x.toUInt32 >>> ((1 : Int32).toUInt32 &&& Int32.toUInt32 31)).toInt32 &&& 1431655765)
def o_2 (x : Int32) : Int32 := (x &&& 858993459) + ((x.toUInt32 >>> ((2 : Int32).toUInt32 &&& Int32.toUInt32 31)).toInt32 &&& 858993459)
def o_3 (x : Int32) : Int32 := (x + (x.toUInt32 >>> ((4 : Int32).toUInt32 &&& Int32.toUInt32 31)).toInt32) &&& 252645135
def o_4 (x : Int32) : Int32 := x + (x.toUInt32 >>> ((8 : Int32).toUInt32 &&& Int32.toUInt32 31)).toInt32
def o_5 (x : Int32) : Int32 := x + (x.toUInt32 >>> ((16 : Int32).toUInt32 &&& Int32.toUInt32 31)).toInt32
theorem o_all (x : Int32) : n_ones32 x = o_5 (o_4 (o_3 (o_2 (o_1 x)))) &&& 63 := rfl
theorem o_ones (x : Int32) : (n_ones32 x).toBitVec.toNat = p_cnt 32 x.toBitVec.toNat := by
  have hx : x.toBitVec.toNat < 256 ^ 4 := x.toBitVec.isLt
  have m1 : (1431655765 : Int32).toBitVec.toNat = p_m 85 4 := by decide
  have m2 : (858993459 : Int32).toBitVec.toNat = p_m 51 4 := by decide
  have m3 : (252645135 : Int32).toBitVec.toNat = p_m 15 4 := by decide
  have h1 : (o_1 x).toBitVec.toNat = p_map p_t1 4 x.toBitVec.toNat := by
    have e : ((x.toUInt32 >>> ((1 : Int32).toUInt32 &&& Int32.toUInt32 31)).toInt32 &&& 1431655765).toBitVec.toNat = (x.toBitVec.toNat / 2 &&& p_m 85 4) := by
      rw [o_and, o_sh 1 1 (by decide), m1, Nat.pow_one]
    unfold o_1
    rw [o_sub (by rw [e]; exact Nat.le_trans Nat.and_le_left (Nat.div_le_self _ _)), e, p_l1 4 _ hx]
  have l1 := p_mapL p_b1 4 x.toBitVec.toNat
  have h2 : (o_2 (o_1 x)).toBitVec.toNat = p_map p_t2 4 (p_map p_t1 4 x.toBitVec.toNat) := by
    have e : ((o_1 x) &&& 858993459).toBitVec.toNat + (((o_1 x).toUInt32 >>> ((2 : Int32).toUInt32 &&& Int32.toUInt32 31)).toInt32 &&& 858993459).toBitVec.toNat = p_map p_t2 4 (p_map p_t1 4 x.toBitVec.toNat) := by
      rw [o_and, o_and, o_sh 2 2 (by decide), m2, h1, ← p_l2 4 _ l1]
    unfold o_2
    rw [o_add (by rw [e, p_map2 p_b1]; exact p_mapL p_b2 4 _), e]
  have l2 := p_mapL p_b2 4 x.toBitVec.toNat
  rw [← p_map2 p_b1] at l2
  have l3 : p_map p_t2 4 (p_map p_t1 4 x.toBitVec.toNat) ≤ 1145324612 := by
    rw [p_map2 p_b1]
    show p_t2 (p_t1 _) + 256 * (p_t2 (p_t1 _) + 256 * (p_t2 (p_t1 _) + 256 * (p_t2 (p_t1 _) + 256 * 0))) ≤ _
    have z : ∀ b, b < 256 → p_t2 (p_t1 b) ≤ 68 := by
      intro b hb
      have := p_b3 b hb
      have := p_b4 b hb
      omega
    have z1 := z (x.toBitVec.toNat % 256) (Nat.mod_lt _ (by decide))
    have z2 := z (x.toBitVec.toNat / 256 % 256) (Nat.mod_lt _ (by decide))
    have z3 := z (x.toBitVec.toNat / 256 / 256 % 256) (Nat.mod_lt _ (by decide))
    have z4 := z (x.toBitVec.toNat / 256 / 256 / 256 % 256) (Nat.mod_lt _ (by decide))
    omega
  have h3 : (o_3 (o_2 (o_1 x))).toBitVec.toNat = p_map (fun b => p_t3 (p_t2 (p_t1 b))) 4 x.toBitVec.toNat := by
    unfold o_3
    rw [o_and, o_add (by rw [o_sh 4 4 (by decide), h2]; omega), o_sh 4 4 (by decide), h2, m3]
    exact p_steps 4 _ hx
  have d : p_map (fun b => p_t3 (p_t2 (p_t1 b))) 4 x.toBitVec.toNat = p_8 (x.toBitVec.toNat % 256) + 256 * (p_8 (x.toBitVec.toNat / 256 % 256) + 256 * (p_8 (x.toBitVec.toNat / 256 / 256 % 256) + 256 * (p_8 (x.toBitVec.toNat / 256 / 256 / 256 % 256) + 256 * 0))) := by
    show p_t3 (p_t2 (p_t1 _)) + 256 * (p_t3 (p_t2 (p_t1 _)) + 256 * (p_t3 (p_t2 (p_t1 _)) + 256 * (p_t3 (p_t2 (p_t1 _)) + 256 * 0))) = _
    rw [p_b5 _ (Nat.mod_lt _ (by decide)), p_b5 _ (Nat.mod_lt _ (by decide)), p_b5 _ (Nat.mod_lt _ (by decide)), p_b5 _ (Nat.mod_lt _ (by decide))]
  have c : p_cnt 32 x.toBitVec.toNat = p_8 (x.toBitVec.toNat % 256) + (p_8 (x.toBitVec.toNat / 256 % 256) + (p_8 (x.toBitVec.toNat / 256 / 256 % 256) + (p_8 (x.toBitVec.toNat / 256 / 256 / 256 % 256) + 0))) := by
    rw [p_cnt8 24, p_cnt8 16, p_cnt8 8, p_cnt8 0]
    rfl
  rw [d] at h3
  rw [c]
  have z1 := p_b6 (x.toBitVec.toNat % 256) (Nat.mod_lt _ (by decide))
  have z2 := p_b6 (x.toBitVec.toNat / 256 % 256) (Nat.mod_lt _ (by decide))
  have z3 := p_b6 (x.toBitVec.toNat / 256 / 256 % 256) (Nat.mod_lt _ (by decide))
  have z4 := p_b6 (x.toBitVec.toNat / 256 / 256 / 256 % 256) (Nat.mod_lt _ (by decide))
  generalize p_8 (x.toBitVec.toNat % 256) = d0 at *
  generalize p_8 (x.toBitVec.toNat / 256 % 256) = d1 at *
  generalize p_8 (x.toBitVec.toNat / 256 / 256 % 256) = d2 at *
  generalize p_8 (x.toBitVec.toNat / 256 / 256 / 256 % 256) = d3 at *
  rw [o_all]
  generalize o_3 (o_2 (o_1 x)) = y at *
  have e4 : (o_4 y).toBitVec.toNat = y.toBitVec.toNat + y.toBitVec.toNat / 256 := by
    unfold o_4
    rw [o_add (by rw [o_sh 8 8 (by decide), h3]; omega), o_sh 8 8 (by decide)]
  have e5 : (o_5 (o_4 y)).toBitVec.toNat = (o_4 y).toBitVec.toNat + (o_4 y).toBitVec.toNat / 65536 := by
    unfold o_5
    rw [o_add (by rw [o_sh 16 16 (by decide), e4, h3]; omega), o_sh 16 16 (by decide)]
  rw [o_and, show (63 : Int32).toBitVec.toNat = 2 ^ 6 - 1 by decide, Nat.and_two_pow_sub_one_eq_mod, e5, e4, h3]
  clear h1 h2 h3 e4 e5 l1 l2 l3 d c m1 m2 m3 hx
  have f1 : (d0 + 256 * (d1 + 256 * (d2 + 256 * (d3 + 256 * 0)))) / 256 = d1 + 256 * d2 + 65536 * d3 := by omega
  rw [f1]
  have f2 : (d0 + 256 * (d1 + 256 * (d2 + 256 * (d3 + 256 * 0))) + (d1 + 256 * d2 + 65536 * d3)) / 65536 = d2 + d3 + 256 * d3 := by omega
  rw [f2]
  omega
theorem q_ones32 (a : Int64) : n_ones32 a.toInt32 = r_on a 32 := by
  rw [q_on a 32 (by decide)]
  apply Int32.toBitVec_inj.mp
  apply BitVec.eq_of_toNat_eq
  have hs : ∀ k n m : Nat, (∀ j, j < k → n / 2 ^ j % 2 = m / 2 ^ j % 2) → p_cnt k n = p_cnt k m := by
    intro k
    induction k with
    | zero => intro n m _; rfl
    | succ k ih =>
      intro n m h
      rw [p_cntS, p_cntS, ih n m (fun j hj => h j (by omega)), h k (by omega)]
  have hb : ∀ k n : Nat, p_cnt k n ≤ k := by
    intro k
    induction k with
    | zero => intro n; exact Nat.le_refl 0
    | succ k ih =>
      intro n
      show n % 2 + p_cnt k (n / 2) ≤ k + 1
      have := ih (n / 2)
      omega
  have h32 := hb 32 a.toBitVec.toNat
  rw [o_ones, pk_tn (by omega)]
  apply hs
  intro j hj
  rw [q_lowN]
  have h2 : (2 : Nat) ^ 32 = 2 ^ j * (2 * 2 ^ (31 - j)) := by
    rw [← Nat.mul_assoc, ← Nat.pow_succ, ← Nat.pow_add]
    congr 1
    omega
  rw [h2, Nat.mod_mul_right_div_self, Nat.mod_mul_right_mod]
