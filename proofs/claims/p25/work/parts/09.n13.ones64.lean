theorem v_1 {L : Nat} (H : Nat) (hL : L < 4294967296) : (L + 4294967296 * H) / 256 = L / 256 + 16777216 * (H % 256) + 4294967296 * (H / 256) := by omega
theorem v_2 {L : Nat} (H : Nat) (hL : L < 4294967296) : (L + 4294967296 * H) / 65536 = L / 65536 + 65536 * (H % 65536) + 4294967296 * (H / 65536) := by omega
theorem v_3 {L : Nat} (H : Nat) (hL : L < 4294967296) : (L + 4294967296 * H) / 4294967296 = H := by omega
theorem v_4 {a b c d : Nat} (ha : a ≤ 8) (hb : b ≤ 8) (hc : c ≤ 8) (hd : d ≤ 8) : (a + 256 * (b + 256 * (c + 256 * d))) / 256 = b + 256 * (c + 256 * d) := by omega
theorem v_5 {a b c d : Nat} (ha : a ≤ 16) (hb : b ≤ 16) (hc : c ≤ 16) (hd : d ≤ 16) : (a + 256 * (b + 256 * (c + 256 * d))) / 65536 = c + 256 * d := by omega
theorem v_6 {a b c d : Nat} (ha : a ≤ 16) (hb : b ≤ 16) (hc : c ≤ 16) (hd : d ≤ 16) : (a + 256 * (b + 256 * (c + 256 * d))) % 65536 = a + 256 * b := by omega
theorem v_7 {a b c d : Nat} (ha : a ≤ 8) : (a + 256 * (b + 256 * (c + 256 * d))) % 256 = a := by omega
/-- eight digits, added up by the three last steps -/
theorem v_sum {d0 d1 d2 d3 d4 d5 d6 d7 y y4 y5 y6 : Nat} (z0 : d0 ≤ 8) (z1 : d1 ≤ 8) (z2 : d2 ≤ 8) (z3 : d3 ≤ 8) (z4 : d4 ≤ 8) (z5 : d5 ≤ 8) (z6 : d6 ≤ 8) (z7 : d7 ≤ 8)
    (h : y = (d0 + 256 * (d1 + 256 * (d2 + 256 * d3))) + 4294967296 * (d4 + 256 * (d5 + 256 * (d6 + 256 * d7)))) (h4 : y4 = y + y / 256) (h5 : y5 = y4 + y4 / 65536) (h6 : y6 = y5 + y5 / 4294967296) :
    y < 9223372036854775808 ∧ y4 < 9223372036854775808 ∧ y5 < 9223372036854775808 ∧ y6 % 4294967296 % 128 = d0 + (d1 + (d2 + (d3 + (d4 + (d5 + (d6 + (d7 + 0))))))) := by
  have e4 : y4 = ((d0 + d1) + 256 * ((d1 + d2) + 256 * ((d2 + d3) + 256 * (d3 + d4)))) + 4294967296 * ((d4 + d5) + 256 * ((d5 + d6) + 256 * ((d6 + d7) + 256 * d7))) := by
    rw [h4, h, v_1 _ (by omega), v_4 z0 z1 z2 z3, v_4 z4 z5 z6 z7, v_7 z4]
    omega
  have e5 : y5 = (((d0 + d1) + (d2 + d3)) + 256 * (((d1 + d2) + (d3 + d4)) + 256 * (((d2 + d3) + (d4 + d5)) + 256 * ((d3 + d4) + (d5 + d6))))) + 4294967296 * (((d4 + d5) + (d6 + d7)) + 256 * (((d5 + d6) + d7) + 256 * ((d6 + d7) + 256 * d7))) := by
    rw [h5, e4, v_2 _ (by omega), v_5 (by omega) (by omega) (by omega) (by omega), v_5 (by omega) (by omega) (by omega) (by omega), v_6 (by omega) (by omega) (by omega) (by omega)]
    omega
  refine ⟨by rw [h]; omega, by rw [e4]; omega, by rw [e5]; omega, ?_⟩
  rw [h6, e5, v_3 _ (by omega)]
  clear h h4 h5 h6 e4 e5
  omega
/-! the same of a long -/
theorem u_sh {x : Int64} {j : Nat} (h : j < 64) : (x.toUInt64 >>> ((nI j).toInt64.toUInt64 &&& Int64.toUInt64 63)).toInt64.toBitVec.toNat = x.toBitVec.toNat / 2 ^ j := q_ushrN x h
theorem u_and (x y : Int64) : (x &&& y).toBitVec.toNat = (x.toBitVec.toNat &&& y.toBitVec.toNat) := by rw [Int64.toBitVec_and, BitVec.toNat_and]
theorem u_add {x y : Int64} (h : x.toBitVec.toNat + y.toBitVec.toNat < 18446744073709551616) : (x + y).toBitVec.toNat = x.toBitVec.toNat + y.toBitVec.toNat := by
  rw [Int64.toBitVec_add, BitVec.toNat_add, Nat.mod_eq_of_lt h]
theorem u_sub {x y : Int64} (h : y.toBitVec.toNat ≤ x.toBitVec.toNat) : (x - y).toBitVec.toNat = x.toBitVec.toNat - y.toBitVec.toNat := by
  have hx := x.toBitVec.isLt
  rw [Int64.toBitVec_sub, BitVec.toNat_sub]
  omega
def u_s (x : Int64) (k : Int32) : Int64 := (x.toUInt64 >>> (k.toInt64.toUInt64 &&& Int64.toUInt64 63)).toInt64
theorem u_sN (x : Int64) {k : Int32} (j : Nat) (hj : j < 64) (e : k = nI j) : (u_s x k).toBitVec.toNat = x.toBitVec.toNat / 2 ^ j := by
  subst e
  exact q_ushrN x hj
def u_1 (x : Int64) : Int64 := x - (u_s x 1 &&& 6148914691236517205)
def u_2 (x : Int64) : Int64 := (x &&& 3689348814741910323) + (u_s x 2 &&& 3689348814741910323)
def u_3 (x : Int64) : Int64 := (x + u_s x 4) &&& 1085102592571150095
def u_4 (x : Int64) (k : Int32) : Int64 := x + u_s x k
theorem u_all (x : Int64) : n_ones64 x = (u_4 (u_4 (u_4 (u_3 (u_2 (u_1 x))) 8) 16) 32).toInt32 &&& 127 := rfl
theorem u_cntB : ∀ k n : Nat, p_cnt k n ≤ k
  | 0, _ => Nat.le_refl 0
  | k + 1, n => by
    show n % 2 + p_cnt k (n / 2) ≤ k + 1
    have := u_cntB k (n / 2)
    omega
set_option maxHeartbeats 4000000 in
theorem u_ones (x : Int64) : (n_ones64 x).toBitVec.toNat = p_cnt 64 x.toBitVec.toNat := by
  have hx : x.toBitVec.toNat < 256 ^ 8 := x.toBitVec.isLt
  have m1 : (6148914691236517205 : Int64).toBitVec.toNat = p_m 85 8 := by decide
  have m2 : (3689348814741910323 : Int64).toBitVec.toNat = p_m 51 8 := by decide
  have m3 : (1085102592571150095 : Int64).toBitVec.toNat = p_m 15 8 := by decide
  have h1 : (u_1 x).toBitVec.toNat = p_map p_t1 8 x.toBitVec.toNat := by
    have e : (u_s x 1 &&& 6148914691236517205).toBitVec.toNat = (x.toBitVec.toNat / 2 &&& p_m 85 8) := by
      rw [u_and, u_sN (k := 1) x 1 (by decide) rfl, m1, Nat.pow_one]
    unfold u_1
    rw [u_sub (by rw [e]; exact Nat.le_trans Nat.and_le_left (Nat.div_le_self _ _)), e, p_l1 8 _ hx]
  have l1 := p_mapL p_b1 8 x.toBitVec.toNat
  have h2 : (u_2 (u_1 x)).toBitVec.toNat = p_map p_t2 8 (p_map p_t1 8 x.toBitVec.toNat) := by
    have e : ((u_1 x) &&& 3689348814741910323).toBitVec.toNat + (u_s (u_1 x) 2 &&& 3689348814741910323).toBitVec.toNat = p_map p_t2 8 (p_map p_t1 8 x.toBitVec.toNat) := by
      rw [u_and, u_and, u_sN (k := 2) _ 2 (by decide) rfl, m2, h1, ← p_l2 8 _ l1]
    unfold u_2
    rw [u_add (by rw [e, p_map2 p_b1]; exact p_mapL p_b2 8 _), e]
  have z : ∀ b, b < 256 → p_t2 (p_t1 b) ≤ 68 := by
    intro b hb
    have := p_b3 b hb
    have := p_b4 b hb
    omega
  have l3 : p_map p_t2 8 (p_map p_t1 8 x.toBitVec.toNat) ≤ 4919131752989213764 := by
    rw [p_map2 p_b1]
    show p_t2 (p_t1 _) + 256 * (p_t2 (p_t1 _) + 256 * (p_t2 (p_t1 _) + 256 * (p_t2 (p_t1 _) + 256 * (p_t2 (p_t1 _) + 256 * (p_t2 (p_t1 _) + 256 * (p_t2 (p_t1 _) + 256 * (p_t2 (p_t1 _) + 256 * 0))))))) ≤ _
    have z0 := z (x.toBitVec.toNat % 256) (Nat.mod_lt _ (by decide))
    have z1 := z (x.toBitVec.toNat / 256 % 256) (Nat.mod_lt _ (by decide))
    have z2 := z (x.toBitVec.toNat / 256 / 256 % 256) (Nat.mod_lt _ (by decide))
    have z3 := z (x.toBitVec.toNat / 256 / 256 / 256 % 256) (Nat.mod_lt _ (by decide))
    have z4 := z (x.toBitVec.toNat / 256 / 256 / 256 / 256 % 256) (Nat.mod_lt _ (by decide))
    have z5 := z (x.toBitVec.toNat / 256 / 256 / 256 / 256 / 256 % 256) (Nat.mod_lt _ (by decide))
    have z6 := z (x.toBitVec.toNat / 256 / 256 / 256 / 256 / 256 / 256 % 256) (Nat.mod_lt _ (by decide))
    have z7 := z (x.toBitVec.toNat / 256 / 256 / 256 / 256 / 256 / 256 / 256 % 256) (Nat.mod_lt _ (by decide))
    omega
  have h3 : (u_3 (u_2 (u_1 x))).toBitVec.toNat = p_map (fun b => p_t3 (p_t2 (p_t1 b))) 8 x.toBitVec.toNat := by
    unfold u_3
    rw [u_and, u_add (by rw [u_sN (k := 4) _ 4 (by decide) rfl, h2]; omega), u_sN (k := 4) _ 4 (by decide) rfl, h2, m3]
    exact p_steps 8 _ hx
  have d : p_map (fun b => p_t3 (p_t2 (p_t1 b))) 8 x.toBitVec.toNat = p_8 (x.toBitVec.toNat % 256) + 256 * (p_8 (x.toBitVec.toNat / 256 % 256) + 256 * (p_8 (x.toBitVec.toNat / 256 / 256 % 256) + 256 * (p_8 (x.toBitVec.toNat / 256 / 256 / 256 % 256) + 256 * (p_8 (x.toBitVec.toNat / 256 / 256 / 256 / 256 % 256) + 256 * (p_8 (x.toBitVec.toNat / 256 / 256 / 256 / 256 / 256 % 256) + 256 * (p_8 (x.toBitVec.toNat / 256 / 256 / 256 / 256 / 256 / 256 % 256) + 256 * (p_8 (x.toBitVec.toNat / 256 / 256 / 256 / 256 / 256 / 256 / 256 % 256) + 256 * 0))))))) := by
    show p_t3 (p_t2 (p_t1 _)) + 256 * (p_t3 (p_t2 (p_t1 _)) + 256 * (p_t3 (p_t2 (p_t1 _)) + 256 * (p_t3 (p_t2 (p_t1 _)) + 256 * (p_t3 (p_t2 (p_t1 _)) + 256 * (p_t3 (p_t2 (p_t1 _)) + 256 * (p_t3 (p_t2 (p_t1 _)) + 256 * (p_t3 (p_t2 (p_t1 _)) + 256 * 0))))))) = _
    rw [p_b5 _ (Nat.mod_lt _ (by decide)), p_b5 _ (Nat.mod_lt _ (by decide)), p_b5 _ (Nat.mod_lt _ (by decide)), p_b5 _ (Nat.mod_lt _ (by decide)), p_b5 _ (Nat.mod_lt _ (by decide)), p_b5 _ (Nat.mod_lt _ (by decide)), p_b5 _ (Nat.mod_lt _ (by decide)), p_b5 _ (Nat.mod_lt _ (by decide))]
  have c : p_cnt 64 x.toBitVec.toNat = p_8 (x.toBitVec.toNat % 256) + (p_8 (x.toBitVec.toNat / 256 % 256) + (p_8 (x.toBitVec.toNat / 256 / 256 % 256) + (p_8 (x.toBitVec.toNat / 256 / 256 / 256 % 256) + (p_8 (x.toBitVec.toNat / 256 / 256 / 256 / 256 % 256) + (p_8 (x.toBitVec.toNat / 256 / 256 / 256 / 256 / 256 % 256) + (p_8 (x.toBitVec.toNat / 256 / 256 / 256 / 256 / 256 / 256 % 256) + (p_8 (x.toBitVec.toNat / 256 / 256 / 256 / 256 / 256 / 256 / 256 % 256) + 0))))))) := by
    rw [p_cnt8 56, p_cnt8 48, p_cnt8 40, p_cnt8 32, p_cnt8 24, p_cnt8 16, p_cnt8 8, p_cnt8 0]
    rfl
  rw [d] at h3
  rw [c]
  have z0 := p_b6 (x.toBitVec.toNat % 256) (Nat.mod_lt _ (by decide))
  have z1 := p_b6 (x.toBitVec.toNat / 256 % 256) (Nat.mod_lt _ (by decide))
  have z2 := p_b6 (x.toBitVec.toNat / 256 / 256 % 256) (Nat.mod_lt _ (by decide))
  have z3 := p_b6 (x.toBitVec.toNat / 256 / 256 / 256 % 256) (Nat.mod_lt _ (by decide))
  have z4 := p_b6 (x.toBitVec.toNat / 256 / 256 / 256 / 256 % 256) (Nat.mod_lt _ (by decide))
  have z5 := p_b6 (x.toBitVec.toNat / 256 / 256 / 256 / 256 / 256 % 256) (Nat.mod_lt _ (by decide))
  have z6 := p_b6 (x.toBitVec.toNat / 256 / 256 / 256 / 256 / 256 / 256 % 256) (Nat.mod_lt _ (by decide))
  have z7 := p_b6 (x.toBitVec.toNat / 256 / 256 / 256 / 256 / 256 / 256 / 256 % 256) (Nat.mod_lt _ (by decide))
  generalize p_8 (x.toBitVec.toNat % 256) = d0 at *
  generalize p_8 (x.toBitVec.toNat / 256 % 256) = d1 at *
  generalize p_8 (x.toBitVec.toNat / 256 / 256 % 256) = d2 at *
  generalize p_8 (x.toBitVec.toNat / 256 / 256 / 256 % 256) = d3 at *
  generalize p_8 (x.toBitVec.toNat / 256 / 256 / 256 / 256 % 256) = d4 at *
  generalize p_8 (x.toBitVec.toNat / 256 / 256 / 256 / 256 / 256 % 256) = d5 at *
  generalize p_8 (x.toBitVec.toNat / 256 / 256 / 256 / 256 / 256 / 256 % 256) = d6 at *
  generalize p_8 (x.toBitVec.toNat / 256 / 256 / 256 / 256 / 256 / 256 / 256 % 256) = d7 at *
  rw [u_all]
  generalize u_3 (u_2 (u_1 x)) = y at *
  clear h1 h2 l1 l3 d c m1 m2 m3 hx z
  have hy : y.toBitVec.toNat = (d0 + 256 * (d1 + 256 * (d2 + 256 * d3))) + 4294967296 * (d4 + 256 * (d5 + 256 * (d6 + 256 * d7))) := by rw [h3]; omega
  obtain ⟨b0, b4, b5, s⟩ := v_sum z0 z1 z2 z3 z4 z5 z6 z7 hy rfl rfl rfl
  clear h3 hy z0 z1 z2 z3 z4 z5 z6 z7
  have e4 : (u_4 y 8).toBitVec.toNat = y.toBitVec.toNat + y.toBitVec.toNat / 256 := by
    unfold u_4
    rw [u_add (by rw [u_sN (k := 8) _ 8 (by decide) rfl]; omega), u_sN (k := 8) _ 8 (by decide) rfl]
  rw [← e4] at b4 b5 s
  have e5 : (u_4 (u_4 y 8) 16).toBitVec.toNat = (u_4 y 8).toBitVec.toNat + (u_4 y 8).toBitVec.toNat / 65536 := by
    generalize u_4 y 8 = y4 at *
    unfold u_4
    rw [u_add (by rw [u_sN (k := 16) _ 16 (by decide) rfl]; omega), u_sN (k := 16) _ 16 (by decide) rfl]
  rw [← e5] at b5 s
  have e6 : (u_4 (u_4 (u_4 y 8) 16) 32).toBitVec.toNat = (u_4 (u_4 y 8) 16).toBitVec.toNat + (u_4 (u_4 y 8) 16).toBitVec.toNat / 4294967296 := by
    generalize u_4 (u_4 y 8) 16 = y5 at *
    unfold u_4
    rw [u_add (by rw [u_sN (k := 32) _ 32 (by decide) rfl]; omega), u_sN (k := 32) _ 32 (by decide) rfl]
  rw [← e6] at s
  rw [o_and, show (127 : Int32).toBitVec.toNat = 2 ^ 7 - 1 by decide, Nat.and_two_pow_sub_one_eq_mod, q_lowN]
  exact s
theorem q_ones64 (a : Int64) : n_ones64 a = r_on a 64 := by
  rw [q_on a 64 (by decide)]
  apply Int32.toBitVec_inj.mp
  apply BitVec.eq_of_toNat_eq
  have h := u_cntB 64 a.toBitVec.toNat
  rw [u_ones, pk_tn (by omega)]
theorem q_oness (w : Int32) (a b : Int64) : n_apply 12 w a b = r_special 6 w a 0 := by
  have e : n_one 12 w a = if w = 0 then (n_ones32 a.toInt32).toInt64 else (n_ones64 a).toInt64 := rfl
  show (if w = 0 then (n_one 12 w a).toInt32.toInt64 else n_one 12 w a) = (r_on a (r_B w)).toInt64
  by_cases hw : w = 0
  · rw [if_pos hw, e, if_pos hw, hw, Int32.toInt32_toInt64, q_ones32]
    rfl
  · rw [if_neg hw, e, if_neg hw, q_ones64, show r_B w = 64 from if_neg hw]
