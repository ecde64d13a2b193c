/-! how many bits are 1: the JDK's bitCount, and the count bit by bit -/
def p_m (mb : Nat) : Nat → Nat
  | 0 => 0
  | k + 1 => mb + 256 * p_m mb k
def p_map (t : Nat → Nat) : Nat → Nat → Nat
  | 0, _ => 0
  | k + 1, n => t (n % 256) + 256 * p_map t k (n / 256)
def p_t1 (b : Nat) : Nat := b - (b / 2 &&& 85)
def p_t2 (b : Nat) : Nat := (b &&& 51) + (b / 4 &&& 51)
def p_t3 (b : Nat) : Nat := (b + b / 16) % 16
def p_8 (b : Nat) : Nat := b % 2 + b / 2 % 2 + b / 4 % 2 + b / 8 % 2 + b / 16 % 2 + b / 32 % 2 + b / 64 % 2 + b / 128 % 2
theorem p_land {b c r d : Nat} (hb : b < 256) (hc : c < 256) : (b + 256 * r) &&& (c + 256 * d) = (b &&& c) + 256 * (r &&& d) := by
  apply Nat.eq_of_testBit_eq
  intro j
  have hbc : b &&& c < 256 := Nat.lt_of_le_of_lt Nat.and_le_left hb
  rw [Nat.testBit_and, Nat.add_comm b, Nat.add_comm c, Nat.add_comm (b &&& c), show (256 : Nat) = 2 ^ 8 from rfl, Nat.testBit_two_pow_mul_add _ (show b < 2 ^ 8 from hb), Nat.testBit_two_pow_mul_add _ (show c < 2 ^ 8 from hc), Nat.testBit_two_pow_mul_add _ (show b &&& c < 2 ^ 8 from hbc), Nat.testBit_and, Nat.testBit_and]
  split <;> rfl
theorem p_c1 : ∀ b : Nat, b < 256 → (b / 2 + 128 &&& 85) = (b / 2 &&& 85) := by decide +kernel
theorem p_c2 : ∀ e : Nat, e < 4 → ∀ b : Nat, b < 256 → (b / 4 + 64 * e &&& 51) = (b / 4 &&& 51) := by decide +kernel
theorem p_c1' {b e : Nat} (hb : b < 256) (he : e < 2) : (b / 2 + 128 * e &&& 85) = (b / 2 &&& 85) := by
  rcases (show e = 0 ∨ e = 1 by omega) with rfl | rfl
  · rfl
  · exact p_c1 b hb
theorem p_l1 : ∀ (k n : Nat), n < 256 ^ k → n - (n / 2 &&& p_m 85 k) = p_map p_t1 k n
  | 0, n, h => by
    have : n = 0 := by omega
    subst this
    rfl
  | k + 1, n, h => by
    have hr : n / 256 < 256 ^ k := by
      rw [Nat.pow_succ] at h
      exact Nat.div_lt_of_lt_mul (by omega)
    have ih := p_l1 k (n / 256) hr
    have hb : n % 256 < 256 := Nat.mod_lt _ (by decide)
    have e1 : n / 2 = (n % 256 / 2 + 128 * (n / 256 % 2)) + 256 * (n / 256 / 2) := by omega
    have e2 : (n / 2 &&& p_m 85 (k + 1)) = (n % 256 / 2 &&& 85) + 256 * (n / 256 / 2 &&& p_m 85 k) := by
      rw [e1]
      show _ &&& (85 + 256 * p_m 85 k) = _
      rw [p_land (by omega) (by decide), p_c1' hb (Nat.mod_lt _ (by decide))]
    have e3 : (n % 256 / 2 &&& 85) ≤ n % 256 := Nat.le_trans Nat.and_le_left (Nat.div_le_self _ _)
    have e4 : (n / 256 / 2 &&& p_m 85 k) ≤ n / 256 := Nat.le_trans Nat.and_le_left (Nat.div_le_self _ _)
    rw [e2]
    show _ = p_t1 (n % 256) + 256 * p_map p_t1 k (n / 256)
    rw [← ih]
    unfold p_t1
    omega
theorem p_l2 : ∀ (k n : Nat), n < 256 ^ k → (n &&& p_m 51 k) + (n / 4 &&& p_m 51 k) = p_map p_t2 k n
  | 0, n, h => by
    have : n = 0 := by omega
    subst this
    rfl
  | k + 1, n, h => by
    have hr : n / 256 < 256 ^ k := by
      rw [Nat.pow_succ] at h
      exact Nat.div_lt_of_lt_mul (by omega)
    have ih := p_l2 k (n / 256) hr
    have hb : n % 256 < 256 := Nat.mod_lt _ (by decide)
    have e0 : n = n % 256 + 256 * (n / 256) := by omega
    have e1 : n / 4 = (n % 256 / 4 + 64 * (n / 256 % 4)) + 256 * (n / 256 / 4) := by omega
    have e2 : (n / 4 &&& p_m 51 (k + 1)) = (n % 256 / 4 &&& 51) + 256 * (n / 256 / 4 &&& p_m 51 k) := by
      rw [e1]
      show _ &&& (51 + 256 * p_m 51 k) = _
      rw [p_land (by omega) (by decide), p_c2 _ (Nat.mod_lt _ (by decide)) _ hb]
    have e3 : (n &&& p_m 51 (k + 1)) = (n % 256 &&& 51) + 256 * (n / 256 &&& p_m 51 k) := by
      conv => lhs; rw [e0]
      show _ &&& (51 + 256 * p_m 51 k) = _
      rw [p_land hb (by decide)]
    rw [e2, e3]
    show _ = p_t2 (n % 256) + 256 * p_map p_t2 k (n / 256)
    rw [← ih]
    unfold p_t2
    omega
theorem p_mapL {t : Nat → Nat} (ht : ∀ b, b < 256 → t b < 256) : ∀ k n : Nat, p_map t k n < 256 ^ k
  | 0, _ => by show 0 < 1; decide
  | k + 1, n => by
    have h1 := ht (n % 256) (Nat.mod_lt _ (by decide))
    have h2 := p_mapL ht k (n / 256)
    show t (n % 256) + 256 * p_map t k (n / 256) < _
    rw [Nat.pow_succ]
    omega
theorem p_map2 {t u : Nat → Nat} (ht : ∀ b, b < 256 → t b < 256) : ∀ k n : Nat, p_map u k (p_map t k n) = p_map (fun b => u (t b)) k n
  | 0, _ => rfl
  | k + 1, n => by
    have h1 := ht (n % 256) (Nat.mod_lt _ (by decide))
    show u ((t (n % 256) + 256 * p_map t k (n / 256)) % 256) + 256 * p_map u k ((t (n % 256) + 256 * p_map t k (n / 256)) / 256) = u (t (n % 256)) + 256 * p_map (fun b => u (t b)) k (n / 256)
    rw [show (t (n % 256) + 256 * p_map t k (n / 256)) % 256 = t (n % 256) by omega, show (t (n % 256) + 256 * p_map t k (n / 256)) / 256 = p_map t k (n / 256) by omega, p_map2 ht k]
theorem p_low {t : Nat → Nat} (ht : ∀ b, b < 256 → t b % 16 ≤ 4) : ∀ k n : Nat, p_map t k n % 16 ≤ 4
  | 0, _ => by show 0 % 16 ≤ 4; decide
  | k + 1, n => by
    have h1 := ht (n % 256) (Nat.mod_lt _ (by decide))
    show (t (n % 256) + 256 * p_map t k (n / 256)) % 16 ≤ 4
    omega
theorem p_l3 {t : Nat → Nat} (h0 : ∀ b, b < 256 → t b < 256) (ht : ∀ b, b < 256 → t b % 16 ≤ 4) (hu : ∀ b, b < 256 → t b / 16 ≤ 4) : ∀ (k n : Nat), (p_map t k n + p_map t k n / 16 &&& p_m 15 k) = p_map (fun b => p_t3 (t b)) k n
  | 0, n => Nat.and_zero _
  | k + 1, n => by
    have ih := p_l3 h0 ht hu k (n / 256)
    have hb : n % 256 < 256 := Nat.mod_lt _ (by decide)
    have h1 := ht _ hb
    have h2 := hu _ hb
    have h3 := p_low ht k (n / 256)
    show (t (n % 256) + 256 * p_map t k (n / 256) + (t (n % 256) + 256 * p_map t k (n / 256)) / 16 &&& (15 + 256 * p_m 15 k)) = p_t3 (t (n % 256)) + 256 * p_map (fun b => p_t3 (t b)) k (n / 256)
    rw [← ih]
    generalize p_map t k (n / 256) = R at h3 ⊢
    generalize t (n % 256) = v at h1 h2 ⊢
    have e : v + 256 * R + (v + 256 * R) / 16 = (v + v / 16 + 16 * (R % 16)) + 256 * (R + R / 16) := by omega
    rw [e, p_land (by omega) (by decide)]
    have e2 : (v + v / 16 + 16 * (R % 16) &&& 15) = p_t3 v := by
      rw [show (15 : Nat) = 2 ^ 4 - 1 from rfl, Nat.and_two_pow_sub_one_eq_mod]
      unfold p_t3
      omega
    rw [e2]
theorem p_b1 : ∀ b : Nat, b < 256 → p_t1 b < 256 := by decide +kernel
theorem p_b2 : ∀ b : Nat, b < 256 → p_t2 (p_t1 b) < 256 := by decide +kernel
theorem p_b3 : ∀ b : Nat, b < 256 → p_t2 (p_t1 b) % 16 ≤ 4 := by decide +kernel
theorem p_b4 : ∀ b : Nat, b < 256 → p_t2 (p_t1 b) / 16 ≤ 4 := by decide +kernel
theorem p_b5 : ∀ b : Nat, b < 256 → p_t3 (p_t2 (p_t1 b)) = p_8 b := by decide +kernel
theorem p_b6 : ∀ b : Nat, b < 256 → p_8 b ≤ 8 := by decide +kernel
/-- the three masked steps, on k bytes -/
theorem p_steps (k n : Nat) (h : n < 256 ^ k) : (p_map p_t2 k (p_map p_t1 k n) + p_map p_t2 k (p_map p_t1 k n) / 16 &&& p_m 15 k) = p_map (fun b => p_t3 (p_t2 (p_t1 b))) k n := by
  rw [p_map2 p_b1]
  exact p_l3 p_b2 p_b3 p_b4 k n
/-- the count, from the lowest bit on -/
def p_cnt : Nat → Nat → Nat
  | 0, _ => 0
  | k + 1, n => n % 2 + p_cnt k (n / 2)
theorem p_cnt8 (k n : Nat) : p_cnt (k + 8) n = p_8 (n % 256) + p_cnt k (n / 256) := by
  show n % 2 + (n / 2 % 2 + (n / 2 / 2 % 2 + (n / 2 / 2 / 2 % 2 + (n / 2 / 2 / 2 / 2 % 2 + (n / 2 / 2 / 2 / 2 / 2 % 2 + (n / 2 / 2 / 2 / 2 / 2 / 2 % 2 + (n / 2 / 2 / 2 / 2 / 2 / 2 / 2 % 2 + p_cnt k (n / 2 / 2 / 2 / 2 / 2 / 2 / 2 / 2)))))))) = _
  rw [show n / 2 / 2 / 2 / 2 / 2 / 2 / 2 / 2 = n / 256 by omega]
  unfold p_8
  omega
theorem p_cntS : ∀ k n : Nat, p_cnt (k + 1) n = p_cnt k n + n / 2 ^ k % 2
  | 0, n => by
    show n % 2 + 0 = 0 + n / 1 % 2
    omega
  | k + 1, n => by
    show n % 2 + p_cnt (k + 1) (n / 2) = (n % 2 + p_cnt k (n / 2)) + n / 2 ^ (k + 1) % 2
    rw [p_cntS k (n / 2), Nat.pow_succ, Nat.mul_comm, Nat.div_div_eq_div_mul]
    omega
theorem q_on (a : Int64) : ∀ k : Nat, k ≤ 64 → r_on a k = nI (p_cnt k a.toBitVec.toNat)
  | 0, _ => rfl
  | k + 1, h => by
    show r_on a k + (n_bit a (nI k)).toInt32 = _
    rw [q_on a k (by omega), q_bitN a (show k < 64 by omega), p_cntS]
    have t : a.toBitVec.getLsbD k = decide (a.toBitVec.toNat / 2 ^ k % 2 = 1) := by
      rw [BitVec.getLsbD, Nat.testBit_eq_decide_div_mod_eq]
    rw [t]
    by_cases q : a.toBitVec.toNat / 2 ^ k % 2 = 1
    · rw [q, if_pos (by simp), show ((1 : Int64)).toInt32 = nI 1 from rfl, nI_add]
    · rw [show a.toBitVec.toNat / 2 ^ k % 2 = 0 by omega, if_neg (by simp), show ((0 : Int64)).toInt32 = nI 0 from rfl, nI_add]
