/-! Images: bytes joined and parted. -/
def jn (f : Nat → Int32) : Nat → Nat → Int64 → Int64
  | _, 0, z => z
  | j, n + 1, z => jn f (j + 1) n ((z <<< ((8 : Int32).toInt64 &&& 63)) ||| (f j).toInt64)
/-- the byte of z with m bytes behind it -/
def by8 (z : Int64) (m : Nat) : Int32 := ((z >>> ((Int32.ofNat (8 * m)).toInt64 &&& 63)).toInt32) &&& 255
def sb (z : Int64) : (Nat → Int32) → Nat → Nat → (Nat → Int32)
  | f, _, 0 => f
  | f, j, m + 1 => sb z (upd f j (by8 z m)) (j + 1) m
def jz (z : Int64) : Nat → Int64 → Int64
  | 0, a => a
  | m + 1, a => jz z m ((a <<< ((8 : Int32).toInt64 &&& 63)) ||| (by8 z m).toInt64)
def nb (kd : Int32) : Nat := if kd = 0 then 1 else if kd = 4 then 8 else if kd = 3 then 4 else 2
section R3
variable {v w : CSt} {u x : RSt} {N c : Nat} {a b kd : Int32} {z : Int64}
theorem nb_c (h : KD kd) : ((bt_0.getD kd.toNatClampNeg 0) / 8).toInt = (nb kd : Int) ∧ (r_bits kd / 8).toInt = (nb kd : Int) ∧ (bt_0.getD kd.toNatClampNeg 0 - 8).toInt = 8 * (nb kd : Int) - 8 ∧ 1 ≤ nb kd ∧ nb kd ≤ 8 := by
  rcases h with rfl | rfl | rfl | rfl | rfl <;> decide
theorem sb_lt {f : Nat → Int32} : ∀ m j i, i < j → sb z f j m i = f i := by
  intro m
  induction m generalizing f with
  | zero => intro j i _; rfl
  | succ m ih =>
    intro j i h
    show sb z (upd f j (by8 z m)) (j + 1) m i = f i
    rw [ih (j + 1) i (by omega)]
    exact if_neg (by omega)
theorem jn_sb {f : Nat → Int32} : ∀ m j y, jn (sb z f j m) j m y = jz z m y := by
  intro m
  induction m generalizing f with
  | zero => intro j y; rfl
  | succ m ih =>
    intro j y
    show jn (sb z (upd f j (by8 z m)) (j + 1) m) (j + 1) m ((y <<< ((8 : Int32).toInt64 &&& 63)) ||| (sb z (upd f j (by8 z m)) (j + 1) m j).toInt64) = jz z m ((y <<< ((8 : Int32).toInt64 &&& 63)) ||| (by8 z m).toInt64)
    rw [ih, sb_lt m (j + 1) j (by omega)]
    have e : upd f j (by8 z m) j = by8 z m := if_pos rfl
    rw [e]
theorem sb_rel {f g : Nat → Int32} : ∀ m j, (∀ i, i < 64 → f i = g (64 + i)) → ∀ i, i < 64 → sb z f j m i = sb z g (64 + j) m (64 + i) := by
  intro m
  induction m generalizing f g with
  | zero => intro j h i hi; exact h i hi
  | succ m ih =>
    intro j h i hi
    show sb z (upd f j (by8 z m)) (j + 1) m i = sb z (upd g (64 + j) (by8 z m)) (64 + j + 1) m (64 + i)
    refine ih (j + 1) (fun k hk => ?_) i hi
    show (if k = j then by8 z m else f k) = (if 64 + k = 64 + j then by8 z m else g (64 + k))
    by_cases q : k = j
    · rw [if_pos q, if_pos (by omega)]
    · rw [if_neg q, if_neg (by omega)]
      exact h k hk
/-- the class: get -/
theorem i_get (ha : a.toInt = (c : Int)) (hk : KD kd) (hc : c + nb kd ≤ 64) : pq (F_X1_get N b a kd v) (fun r w => w = v ∧ r = n_cut kd (jn (cA v (211 + b.toNatClampNeg)) c (nb kd) 0)) := by
  obtain ⟨n1, n2, n3, n4, n5⟩ := nb_c hk
  have e1 : (1 : Int32).toInt = 1 := by decide
  have e0 : (0 : Int32).toInt = 0 := by decide
  have e64 : (64 : Int32).toInt = 64 := by decide
  have ea : (a + bt_0.getD kd.toNatClampNeg 0 / 8).toInt = ((c + nb kd : Nat) : Int) := by rw [tI_add (by omega) (by omega)]; omega
  unfold F_X1_get B_X1_get_0
  refine pq_lp (Z := fun _ r w => w = v ∧ r = n_cut kd (jn (cA v (211 + b.toNatClampNeg)) c (nb kd) 0)) (fun (y : Int32 × Int32 × Int32 × Int64 × Int32 × CSt) => y.1 = b ∧ y.2.1 = a ∧ y.2.2.1 = kd ∧ y.2.2.2.2.2 = v ∧ ∃ j m : Nat, y.2.2.2.2.1.toInt = (j : Int) ∧ j + m = c + nb kd ∧ c ≤ j ∧ jn (cA v (211 + b.toNatClampNeg)) j m y.2.2.2.1 = jn (cA v (211 + b.toNatClampNeg)) c (nb kd) 0) ?_ N _ ⟨rfl, rfl, rfl, rfl, c, nb kd, ha, rfl, Nat.le_refl _, rfl⟩
  rintro R ⟨y1, y2, y3, y4, y5, y6⟩ ⟨h1, h2, h3, h4, j, m, h5, h6, h7, h8⟩ ih
  dsimp only at h1 h2 h3 h4 h5 h8
  rw [h1, h2, h3, h4]
  show pq (B_X1_get_6 N R b a kd y4 y5 v) _
  unfold B_X1_get_6 B_X1_get_57
  refine pq_rd (pq_if (fun q => pq_some ⟨rfl, ?_⟩) (fun q => ?_))
  · have := Int32.le_iff_toInt_le.mp q
    have m0 : m = 0 := by omega
    subst m0
    rw [← h8]
    rfl
  · have q' : ¬ ((c + nb kd : Nat) : Int) ≤ (j : Int) := fun y => q (Int32.le_iff_toInt_le.mpr (by omega))
    rw [if_neg (fun y => by have := Int32.lt_iff_toInt_lt.mp y; omega), if_neg (fun y => by have := Int32.le_iff_toInt_le.mp y; omega)]
    refine pq_ix (fun _ => pq_rd ?_)
    obtain ⟨m', rfl⟩ : ∃ m', m = m' + 1 := ⟨m - 1, by omega⟩
    refine ih _ ⟨rfl, rfl, rfl, rfl, j + 1, m', ?_, by omega, by omega, ?_⟩
    · show (y5 + 1).toInt = _
      rw [tI_add (by omega) (by omega), e1]
      omega
    · rw [n_of h5]
      exact h8
/-- the reference: read of an image -/
theorem i_read (ha : a.toInt = (c : Int)) (hk : KD kd) (hc : c + nb kd ≤ 1000) : pp (B_read_37 N kd a u) (fun r w => w = u ∧ r = r_cut kd (jn (u.2.2.1 85) c (nb kd) 0)) := by
  obtain ⟨n1, n2, n3, n4, n5⟩ := nb_c hk
  have e1 : (1 : Int32).toInt = 1 := by decide
  unfold B_read_37
  refine pp_lp (Z := fun _ r w => w = u ∧ r = r_cut kd (jn (u.2.2.1 85) c (nb kd) 0)) (fun (y : Int32 × Int32 × Int64 × Int32 × RSt) => y.1 = kd ∧ y.2.1 = a ∧ y.2.2.2.2 = u ∧ ∃ j m : Nat, y.2.2.2.1.toInt = (j : Int) ∧ j + m = nb kd ∧ jn (u.2.2.1 85) (c + j) m y.2.2.1 = jn (u.2.2.1 85) c (nb kd) 0) ?_ N _ ⟨rfl, rfl, rfl, 0, nb kd, z32, by omega, rfl⟩
  rintro R ⟨y1, y2, y3, y4, y5⟩ ⟨h1, h2, h3, j, m, h5, h6, h8⟩ ih
  dsimp only at h1 h2 h3 h5 h8
  rw [h1, h2, h3]
  show pp (B_read_44 N R kd a y3 y4 u) _
  unfold B_read_44
  refine pp_if (fun q => pp_some ⟨rfl, ?_⟩) (fun q => pp_rd ?_)
  · have := Int32.le_iff_toInt_le.mp q
    have m0 : m = 0 := by omega
    subst m0
    rw [← h8]
    rfl
  · have q' : ¬ (nb kd : Int) ≤ (j : Int) := fun y => q (Int32.le_iff_toInt_le.mpr (by omega))
    obtain ⟨m', rfl⟩ : ∃ m', m = m' + 1 := ⟨m - 1, by omega⟩
    have en : (a + y4).toNatClampNeg = c + j := n_of (by rw [tI_add (by omega) (by omega)]; omega)
    refine ih _ ⟨rfl, rfl, rfl, j + 1, m', ?_, by omega, ?_⟩
    · show (y4 + 1).toInt = _
      rw [tI_add (by omega) (by omega), e1]
      omega
    · rw [en]
      exact h8
/-- nothing but the out image -/
def f214 (v w : CSt) : Prop := w.1 = v.1 ∧ w.2.1 = v.2.1 ∧ (∀ k, k ≠ 214 → cA w k = cA v k) ∧ w.2.2.2 = v.2.2.2
theorem i_set (ha : a.toInt = (c : Int)) (hk : KD kd) (hc : c + nb kd ≤ 64) : pq (F_X1_set N a kd z v) (fun _ w => f214 v w ∧ cA w 214 = sb z (cA v 214) c (nb kd)) := by
  obtain ⟨n1, n2, n3, n4, n5⟩ := nb_c hk
  have e1 : (1 : Int32).toInt = 1 := by decide
  have e0 : (0 : Int32).toInt = 0 := by decide
  have e64 : (64 : Int32).toInt = 64 := by decide
  have e8 : (-8 : Int32).toInt = -8 := by decide
  unfold F_X1_set B_X1_set_0
  refine pq_rd ?_
  refine pq_lp (Z := fun _ _ w => f214 v w ∧ cA w 214 = sb z (cA v 214) c (nb kd)) (fun (y : Int64 × Int32 × Int32 × CSt) => y.1 = z ∧ ∃ j m : Nat, y.2.1.toInt = 8 * (m : Int) - 8 ∧ y.2.2.1.toInt = (j : Int) ∧ j + m = c + nb kd ∧ f214 v y.2.2.2 ∧ sb z (cA y.2.2.2 214) j m = sb z (cA v 214) c (nb kd)) ?_ N _ ⟨rfl, c, nb kd, n3, ha, rfl, ⟨rfl, rfl, fun _ _ => rfl, rfl⟩, rfl⟩
  rintro R ⟨y1, y2, y3, y4⟩ ⟨h1, j, m, h2, h3, h4, h5, h6⟩ ih
  dsimp only at h1 h2 h3 h5 h6
  rw [h1]
  show pq (B_X1_set_13 N R z y2 y3 y4) _
  unfold B_X1_set_13
  refine pq_if (fun q => ?_) (fun q => ?_)
  · have := Int32.lt_iff_toInt_lt.mp q
    have m0 : m = 0 := by omega
    subst m0
    exact pq_some ⟨h5, h6⟩
  · have q' : ¬ y2.toInt < 0 := fun y => q (Int32.lt_iff_toInt_lt.mpr (by omega))
    obtain ⟨m', rfl⟩ : ∃ m', m = m' + 1 := ⟨m - 1, by omega⟩
    rw [if_neg (fun y => by have := Int32.lt_iff_toInt_lt.mp y; omega), if_neg (fun y => by have := Int32.le_iff_toInt_le.mp y; omega)]
    have ey : y2 = Int32.ofNat (8 * m') := tI_eq.mpr (by rw [Int32.toInt_ofNat_of_lt (by omega)]; omega)
    refine pq_ix (fun _ => pq_wc ?_)
    refine ih _ ⟨rfl, j + 1, m', ?_, ?_, by omega, ?_, ?_⟩
    · show (y2 + (-8)).toInt = _
      generalize hg : (-8 : Int32) = g8 at e8 ⊢
      rw [tI_add (by omega) (by omega)]
      omega
    · show (y3 + 1).toInt = _
      rw [tI_add (by omega) (by omega), e1]
      omega
    · refine ⟨h5.1, h5.2.1, fun k hk => ?_, h5.2.2.2⟩
      show (if k = 214 then _ else cA y4 k) = cA v k
      rw [if_neg hk]
      exact h5.2.2.1 k hk
    · rw [← h6]
      show sb z (upd (cA y4 214) y3.toNatClampNeg (((z >>> (y2.toInt64 &&& 63)).toInt32) &&& 255)) (j + 1) m' = sb z (upd (cA y4 214) j (by8 z m')) (j + 1) m'
      rw [n_of h3, ey]
      rfl
def f85 (u w : RSt) : Prop := w.1 = u.1 ∧ w.2.1 = u.2.1 ∧ (∀ k, k ≠ 85 → w.2.2.1 k = u.2.2.1 k) ∧ w.2.2.2 = u.2.2.2
theorem by8_r {m : Nat} {y : Int32} (hy : y = Int32.ofNat (8 * m)) : ((z >>> (y.toInt64 &&& 63)) &&& 255).toInt32 = by8 z m := by
  rw [hy]
  unfold by8
  rw [Int64.toInt32_and]
  rfl
theorem i_write (ha : a.toInt = ((5000 + c : Nat) : Int)) (hk : KD kd) (hc : c + nb kd ≤ 64) : pp (F_write N a kd z u) (fun _ w => f85 u w ∧ w.2.2.1 85 = sb z (u.2.2.1 85) (64 + c) (nb kd)) := by
  obtain ⟨n1, n2, n3, n4, n5⟩ := nb_c hk
  have e1 : (1 : Int32).toInt = 1 := by decide
  have e5 : (5000 : Int32).toInt = 5000 := by decide
  have e64 : (64 : Int32).toInt = 64 := by decide
  have e8 : (8 : Int32).toInt = 8 := by decide
  unfold F_write B_write_0
  rw [if_pos (Int32.le_iff_toInt_le.mpr (by omega))]
  refine pp_lp (Z := fun _ _ w => f85 u w ∧ w.2.2.1 85 = sb z (u.2.2.1 85) (64 + c) (nb kd)) (fun (y : Int32 × Int64 × Int32 × Int32 × RSt) => y.1 = a ∧ y.2.1 = z ∧ y.2.2.1 = r_bits kd / 8 ∧ ∃ j m : Nat, y.2.2.2.1.toInt = (j : Int) ∧ j + m = nb kd ∧ f85 u y.2.2.2.2 ∧ sb z (y.2.2.2.2.2.2.1 85) (64 + c + j) m = sb z (u.2.2.1 85) (64 + c) (nb kd)) ?_ N _ ⟨rfl, rfl, rfl, 0, nb kd, z32, by omega, ⟨rfl, rfl, fun _ _ => rfl, rfl⟩, rfl⟩
  rintro R ⟨y1, y2, y3, y4, y5⟩ ⟨h1, h2, h3, j, m, h4, h5, h6, h7⟩ ih
  dsimp only at h1 h2 h3 h4 h6 h7
  rw [h1, h2, h3]
  show pp (B_write_31 N R a z (r_bits kd / 8) y4 y5) _
  unfold B_write_31
  refine pp_if (fun q => ?_) (fun q => pp_wr ?_)
  · have := Int32.le_iff_toInt_le.mp q
    have m0 : m = 0 := by omega
    subst m0
    exact pp_some ⟨h6, h7⟩
  · have q' : ¬ (nb kd : Int) ≤ (j : Int) := fun y => q (Int32.le_iff_toInt_le.mpr (by omega))
    obtain ⟨m', rfl⟩ : ∃ m', m = m' + 1 := ⟨m - 1, by omega⟩
    have a1 : (64 + a).toInt = ((5064 + c : Nat) : Int) := by rw [tI_add (by omega) (by omega)]; omega
    have a2 : (64 + a - 5000).toInt = ((64 + c : Nat) : Int) := by rw [tI_sub (by omega) (by omega)]; omega
    have en : (64 + a - 5000 + y4).toNatClampNeg = 64 + c + j := n_of (by rw [tI_add (by omega) (by omega)]; omega)
    have s1 : (r_bits kd / 8 - 1).toInt = (nb kd : Int) - 1 := by rw [tI_sub (by omega) (by omega), e1]; omega
    have s2 : (r_bits kd / 8 - 1 - y4).toInt = (m' : Int) := by rw [tI_sub (by omega) (by omega)]; omega
    have s3 : 8 * (r_bits kd / 8 - 1 - y4) = Int32.ofNat (8 * m') := tI_eq.mpr (by rw [Int32.toInt_ofNat_of_lt (by omega), tI_mul (by rw [e8, s2]; omega) (by rw [e8, s2]; omega), e8, s2]; omega)
    rw [en, by8_r s3]
    refine ih _ ⟨rfl, rfl, rfl, j + 1, m', ?_, by omega, ?_, ?_⟩
    · show (y4 + 1).toInt = _
      rw [tI_add (by omega) (by omega), e1]
      omega
    · refine ⟨h6.1, h6.2.1, fun k hk => ?_, h6.2.2.2⟩
      show (if k = 85 then _ else y5.2.2.1 k) = u.2.2.1 k
      rw [if_neg hk]
      exact h6.2.2.1 k hk
    · rw [← h7]
      rfl
end R3
