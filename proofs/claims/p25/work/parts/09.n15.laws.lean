/-! what the law compares of the bench: the class's answer is the reference's -/
theorem qx_kind {k : Int32} (h0 : ¬ k < 0) (h1 : ¬ 4 < k) : n_isKind k = 1 := by simp [n_isKind, h0, h1]
theorem qx_w1 {o k T : Int32} {a b : Int64} (h0 : ¬ o < 0) (h1 : ¬ 10 < o) (hz : ¬ ((o = 3 ∨ o = 4) ∧ b = 0)) (hT : q_sign o = T) : n_cut k (n_combine o 1 a b) = n_cut k (r_two T 1 a b) := by
  subst hT
  rw [q_two1 (by decide) h0 h1 hz]
theorem qx_w0 {o k r T : Int32} {a b : Int64} (h0 : ¬ o < 0) (h1 : ¬ 10 < o) (k0 : ¬ k < 0) (k1 : ¬ 4 < k) (k4 : ¬ k = 4) (r0 : ¬ r < 0) (r1 : ¬ 4 < r) (r4 : o < 8 → ¬ r = 4) (hz : ¬ ((o = 3 ∨ o = 4) ∧ n_cut r b = 0)) (hT : q_sign o = T) : n_cut k (n_combine o 0 (n_cut k a) (n_cut r b)) = n_cut k (r_two T 0 (n_cut k a) (n_cut r b)) := by
  subst hT
  rw [q_two0 h0 h1 (q_I_cut k4 (qx_kind k0 k1) a) (fun q => q_I_cut (r4 q) (qx_kind r0 r1) b) hz]
def q_cmp (o : Int32) : Int32 := if o = 0 then 217 else if o = 1 then 218 else if o = 2 then 238 else if o = 3 then 219 else if o = 4 then 239 else 220
theorem qx_in {o : Int32} {n m : Int} (h0 : n ≤ o.toInt) (h1 : o.toInt ≤ m) : n ≤ o.toInt ∧ o.toInt ≤ m := ⟨h0, h1⟩
theorem qx_a {o w T : Int32} {a b : Int64} (h0 : ¬ o < 0) (h1 : ¬ 6 ≤ o) (hT : q_cmp o = T) : n_apply o w a b = r_two T 1 a b := by
  subst hT
  have a1 := iyB (n := 0) (Int32.not_lt.mp h0) (by decide)
  have a2 := ixA (n := 6) (Int32.not_le.mp h1) (by decide)
  have hI : o.toInt = 0 ∨ o.toInt = 1 ∨ o.toInt = 2 ∨ o.toInt = 3 ∨ o.toInt = 4 ∨ o.toInt = 5 := by omega
  rcases hI with q | q | q | q | q | q
  · obtain rfl : o = 0 := Int32.toInt_inj.mp (q.trans (by decide))
    rfl
  · obtain rfl : o = 1 := Int32.toInt_inj.mp (q.trans (by decide))
    rfl
  · obtain rfl : o = 2 := Int32.toInt_inj.mp (q.trans (by decide))
    rfl
  · obtain rfl : o = 3 := Int32.toInt_inj.mp (q.trans (by decide))
    rfl
  · obtain rfl : o = 4 := Int32.toInt_inj.mp (q.trans (by decide))
    rfl
  · obtain rfl : o = 5 := Int32.toInt_inj.mp (q.trans (by decide))
    rfl
theorem qx_b {o w : Int32} {a b : Int64} (h0 : 6 ≤ o) (h1 : ¬ 8 ≤ o) : n_apply o w a b = r_special (o - 5) 1 a b := by
  have a1 := iyB (n := 6) h0 (by decide)
  have a2 := ixA (n := 8) (Int32.not_le.mp h1) (by decide)
  rcases (show o.toInt = 6 ∨ o.toInt = 7 by omega) with q | q
  · obtain rfl : o = 6 := Int32.toInt_inj.mp (q.trans (by decide))
    exact (show n_apply 6 w a b = n_apply 6 1 a b from rfl).trans (q_min 1 a b)
  · obtain rfl : o = 7 := Int32.toInt_inj.mp (q.trans (by decide))
    exact (show n_apply 7 w a b = n_apply 7 1 a b from rfl).trans (q_max 1 a b)
theorem qx_c0 {o : Int32} {a b : Int64} (h0 : 8 ≤ o) (h1 : ¬ 10 ≤ o) : n_apply o 0 a b = r_special (o - 5) 0 a b := by
  have a1 := iyB (n := 8) h0 (by decide)
  have a2 := ixA (n := 10) (Int32.not_le.mp h1) (by decide)
  rcases (show o.toInt = 8 ∨ o.toInt = 9 by omega) with q | q
  · obtain rfl : o = 8 := Int32.toInt_inj.mp (q.trans (by decide))
    exact q_rol0 a b
  · obtain rfl : o = 9 := Int32.toInt_inj.mp (q.trans (by decide))
    exact q_ror0 a b
theorem qx_c1 {o : Int32} {a b : Int64} (h0 : 8 ≤ o) (h1 : ¬ 10 ≤ o) : n_apply o 1 a b = r_special (o - 5) 1 a b := by
  have a1 := iyB (n := 8) h0 (by decide)
  have a2 := ixA (n := 10) (Int32.not_le.mp h1) (by decide)
  rcases (show o.toInt = 8 ∨ o.toInt = 9 by omega) with q | q
  · obtain rfl : o = 8 := Int32.toInt_inj.mp (q.trans (by decide))
    exact q_rol1 (by decide) a b
  · obtain rfl : o = 9 := Int32.toInt_inj.mp (q.trans (by decide))
    exact q_ror1 (by decide) a b
theorem qx_d {o w : Int32} {a b : Int64} (h : o = 10) : n_apply o w a b = r_special 0 w a 0 := by
  subst h
  exact q_abs w a b
theorem qx_e {o w : Int32} {a b : Int64} (h0 : 10 ≤ o) (hn : ¬ o = 10) (h1 : ¬ 14 ≤ o) : n_apply o w a b = r_special (o - 6) w a 0 := by
  have a1 := iyB (n := 10) h0 (by decide)
  have a2 := ixA (n := 14) (Int32.not_le.mp h1) (by decide)
  rcases (show o.toInt = 10 ∨ o.toInt = 11 ∨ o.toInt = 12 ∨ o.toInt = 13 by omega) with q | q | q | q
  · exact absurd (Int32.toInt_inj.mp (q.trans (by decide))) hn
  · obtain rfl : o = 11 := Int32.toInt_inj.mp (q.trans (by decide))
    exact q_rev w a b
  · obtain rfl : o = 12 := Int32.toInt_inj.mp (q.trans (by decide))
    exact q_oness w a b
  · obtain rfl : o = 13 := Int32.toInt_inj.mp (q.trans (by decide))
    exact q_leads w a b
theorem qx_s0 {o : Int32} {a b : Int64} (h : ∀ j : Int32, j ∈ [0, 1, 2, 3, 4, 5, 6, 7, 8, 9] → ¬ o = j) : n_apply o 0 a b = (n_one o 0 a).toInt32.toInt64 := by
  unfold n_apply
  rw [if_neg (h 0 (by decide)), if_neg (h 1 (by decide)), if_neg (h 2 (by decide)), if_neg (h 3 (by decide)), if_neg (h 4 (by decide)), if_neg (h 5 (by decide)), if_neg (h 6 (by decide)), if_neg (h 7 (by decide)), if_neg (h 8 (by decide)), if_neg (h 9 (by decide))]
  exact if_pos rfl
theorem qx_s1 {o : Int32} {a b : Int64} (h : ∀ j : Int32, j ∈ [0, 1, 2, 3, 4, 5, 6, 7, 8, 9] → ¬ o = j) : n_apply o 1 a b = n_one o 1 a := by
  unfold n_apply
  rw [if_neg (h 0 (by decide)), if_neg (h 1 (by decide)), if_neg (h 2 (by decide)), if_neg (h 3 (by decide)), if_neg (h 4 (by decide)), if_neg (h 5 (by decide)), if_neg (h 6 (by decide)), if_neg (h 7 (by decide)), if_neg (h 8 (by decide)), if_neg (h 9 (by decide))]
  exact if_neg (by decide)
theorem qx_f0 {o : Int32} {a b : Int64} (h : o = 14) : n_apply o 0 a b = r_worked 0 (-a) := by
  subst h
  rw [qx_s0 (by decide), q_worked0]
  rfl
theorem qx_f1 {o : Int32} {a b : Int64} (h : o = 14) : n_apply o 1 a b = r_worked 1 (-a) := by
  subst h
  rw [qx_s1 (by decide), q_worked1 (by decide)]
  rfl
theorem qx_g1 {o : Int32} {a b : Int64} (h : o = 15) : n_apply o 1 a b = a ^^^ (-1) := by
  subst h
  rw [qx_s1 (by decide)]
  rfl
theorem qx_g0 {o : Int32} {a b : Int64} (h : o = 15) (ha : q_I a) : n_apply o 0 a b = a ^^^ (-1) := by
  subst h
  rw [qx_s0 (by decide)]
  exact q_I_xor ha (by unfold q_I; decide)
theorem qx_16 {o : Int32} (h0 : 14 ≤ o) (h1 : ¬ 16 < o) (n4 : ¬ o = 14) (n5 : ¬ o = 15) : o = 16 := by
  have a1 := iyB (n := 14) h0 (by decide)
  have a2 := ixL (n := 16) (Int32.not_lt.mp h1) (by decide)
  rcases (show o.toInt = 14 ∨ o.toInt = 15 ∨ o.toInt = 16 by omega) with q | q | q
  · exact absurd (Int32.toInt_inj.mp (q.trans (by decide))) n4
  · exact absurd (Int32.toInt_inj.mp (q.trans (by decide))) n5
  · exact Int32.toInt_inj.mp (q.trans (by decide))
theorem qx_h1 {o w : Int32} {a b : Int64} (h : o = 16) (hw : w = 0 ∨ w = 1) (ha : a = 0) : n_apply o w a b = 1 := by
  subst h; subst ha
  rcases hw with rfl | rfl
  · rw [qx_s0 (by decide)]; decide
  · rw [qx_s1 (by decide)]; decide
theorem qx_h0 {o w : Int32} {a b : Int64} (h : o = 16) (hw : w = 0 ∨ w = 1) (ha : ¬ a = 0) : n_apply o w a b = 0 := by
  subst h
  rcases hw with rfl | rfl
  · rw [qx_s0 (by decide), show n_one 16 0 a = (if a = 0 then 1 else 0) from rfl, if_neg ha]; decide
  · rw [qx_s1 (by decide), show n_one 16 1 a = (if a = 0 then 1 else 0) from rfl, if_neg ha]
theorem qx_Icut {k : Int32} (k0 : ¬ k < 0) (k1 : ¬ 4 < k) (k4 : ¬ k = 4) (v : Int64) : q_I (n_cut k v) := q_I_cut k4 (qx_kind k0 k1) v
