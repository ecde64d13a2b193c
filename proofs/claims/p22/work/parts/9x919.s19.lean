/-! Tokens: one token of both. -/
/-- what the class put (type, value, tail) and what the reference has (sort, number, wide, name) tell of the same token -/
def TKc (t : Int32) (x : Int64) (g : Int32) (s : Int32) (num : Int64) (wide : Int32) (a b : Int64) : Prop :=
  SRe t s ∧ (t = 129 → (g &&& 2 = 0 ↔ s = 2) ∧ (g &&& 1 = 0 ↔ wide = 0) ∧ (s = 2 → x = num ∧ (g &&& 1 = 0 → -2147483648 ≤ x.toInt ∧ x.toInt ≤ 2147483647))) ∧ (t = 130 → x = num ∧ g = 0 ∧ wide = 0 ∧ (-2147483648 ≤ x.toInt ∧ x.toInt ≤ 2147483647)) ∧ (t = 128 → NmR x g a b)
/-- nothing but the row t of the tokens' arrays changes -/
def RFr (u w : RSt) (t : Nat) : Prop := w.1 = u.1 ∧ w.2.1 = u.2.1 ∧ (∀ c, c ≠ 2 → c ≠ 3 → c ≠ 5 → w.2.2.1 c = u.2.2.1 c) ∧ (∀ c i, i ≠ t → w.2.2.1 c i = u.2.2.1 c i) ∧ (∀ c, c ≠ 4 → c ≠ 6 → c ≠ 7 → w.2.2.2 c = u.2.2.2 c) ∧ (∀ c i, i ≠ t → w.2.2.2 c i = u.2.2.2 c i)
section TokFr
variable {u w z : RSt} {t c : Nat}
theorem RFr.rf : RFr u u t := ⟨rfl, rfl, fun _ _ _ _ => rfl, fun _ _ _ => rfl, fun _ _ _ _ => rfl, fun _ _ _ => rfl⟩
theorem RFr.a {a : Int32} (h : RFr u w t) (hc : c = 2 ∨ c = 3 ∨ c = 5) : RFr u (sA w c t a) t := by
  obtain ⟨h1, h2, h3, h4, h5, h6⟩ := h
  refine ⟨h1, h2, fun d d2 d3 d5 => ?_, fun d i hi => ?_, h5, h6⟩
  · rw [sA_3, if_neg (by rcases hc with q | q | q <;> omega)]
    exact h3 d d2 d3 d5
  · rw [sA_3]
    by_cases q : d = c
    · rw [if_pos q]
      show (if i = t then a else w.2.2.1 c i) = _
      rw [if_neg hi, ← q]
      exact h4 d i hi
    · rw [if_neg q]
      exact h4 d i hi
theorem RFr.b {a : Int64} (h : RFr u w t) (hc : c = 4 ∨ c = 6 ∨ c = 7) : RFr u (sB w c t a) t := by
  obtain ⟨h1, h2, h3, h4, h5, h6⟩ := h
  refine ⟨h1, h2, h3, h4, fun d d2 d3 d5 => ?_, fun d i hi => ?_⟩
  · rw [sB_4, if_neg (by rcases hc with q | q | q <;> omega)]
    exact h5 d d2 d3 d5
  · rw [sB_4]
    by_cases q : d = c
    · rw [if_pos q]
      show (if i = t then a else w.2.2.2 c i) = _
      rw [if_neg hi, ← q]
      exact h6 d i hi
    · rw [if_neg q]
      exact h6 d i hi
theorem sA_at {a : Int32} : (sA w c t a).2.2.1 c t = a := by
  rw [sA_3, if_pos rfl]
  show (if t = t then a else _) = a
  rw [if_pos rfl]
theorem sB_at {a : Int64} : (sB w c t a).2.2.2 c t = a := by
  rw [sB_4, if_pos rfl]
  show (if t = t then a else _) = a
  rw [if_pos rfl]
theorem sA_ne {a : Int32} {d i k : Nat} (h : d ≠ c) : (sA w c i a).2.2.1 d k = w.2.2.1 d k := by rw [sA_3, if_neg h]
theorem sB_ne {a : Int64} {d i k : Nat} (h : d ≠ c) : (sB w c i a).2.2.2 d k = w.2.2.2 d k := by rw [sB_4, if_neg h]
end TokFr
theorem mk_pr : ∀ j ∈ List.range 47, (pkS (mkl.getD j []), 200 + Int32.ofNat j) ∈ prs ∧ ¬ pkS (mkl.getD j []) = 129 ∧ ¬ pkS (mkl.getD j []) = 130 ∧ ¬ pkS (mkl.getD j []) = 128 ∧ ¬ (200 + Int32.ofNat j) = 0 := by decide +kernel
theorem kw_pr : ∀ k ∈ List.range 29, (Int32.ofNat (k + 1), 100 + Int32.ofNat k) ∈ prs ∧ ¬ Int32.ofNat (k + 1) = 129 ∧ ¬ Int32.ofNat (k + 1) = 130 ∧ ¬ Int32.ofNat (k + 1) = 128 ∧ ¬ (100 + Int32.ofNat k) = 0 := by decide +kernel
theorem let_w : ∀ n : Nat, n < 257 → (¬ r_let (Int32.ofInt ((n : Int) - 1)) = 0 ↔ wdB (Int32.ofInt ((n : Int) - 1)) = true ∧ dB (Int32.ofInt ((n : Int) - 1)) = false) := by decide +kernel
theorem dig_w : ∀ n : Nat, n < 257 → (dB (Int32.ofInt ((n : Int) - 1)) = true ↔ ¬ Int32.ofInt ((n : Int) - 1) < 48 ∧ ¬ 57 < Int32.ofInt ((n : Int) - 1)) ∧ (dB (Int32.ofInt ((n : Int) - 1)) = true → wdB (Int32.ofInt ((n : Int) - 1)) = true) ∧ (r_dig (Int32.ofInt ((n : Int) - 1)) = 0 ↔ dB (Int32.ofInt ((n : Int) - 1)) = false) := by decide +kernel
/-- one token of the reference, told by the class's words for it -/
def tkO (by_ : Nat → Int32) (p : Nat) (q : Nat) (t : Int32) (x : Int64) (g : Int32) (s : Int32) (num : Int64) (wide : Int32) (a b : Int64) : Prop := p < q ∧ TKc t x g s num wide a b
theorem rng_b (a : Int32) : -2147483648 ≤ a.toInt64.toInt ∧ a.toInt64.toInt ≤ 2147483647 := by
  rw [Int32.toInt_toInt64]
  have h1 := Int32.le_toInt a
  have h2 := Int32.toInt_lt a
  omega
theorem nU_r {by_ : Nat → Int32} {p en : Nat} {wd ab : Bool} {x : Int64} (h : nU by_ p (some (en, wd, ab, x))) (ha : ab = false) (hw : wd = false) : -2147483648 ≤ x.toInt ∧ x.toInt ≤ 2147483647 := by
  obtain ⟨e, h1, ⟨h2, h3⟩ | ⟨h2, h3⟩⟩ := h
  · injection h3 with h3
    injection h3 with h4 h3
    injection h3 with h5 h3
    injection h3 with h6 h7
    rw [hw] at h5
    rw [ha, ← h5] at h6
    have n76 : ¬ by_ e = 76 := of_decide_eq_false h5.symm
    rw [h7]
    cases hx : nHx by_ p with
    | true =>
      rw [if_pos rfl, if_neg n76]
      exact rng_b _
    | false =>
      rw [if_neg (by decide)]
      rw [hx] at h6
      simp only [Bool.not_false, Bool.true_and] at h6
      have h6 := h6.symm
      rw [Bool.or_eq_false_iff] at h6
      have e0 : (0 : Int64).toInt = 0 := by decide
      have e7 : (2147483647 : Int64).toInt = 2147483647 := by decide
      have q1 := of_decide_eq_false h6.1
      have q2 := of_decide_eq_false h6.2
      have q1 : ¬ (vdL (blL by_ (nFr by_ p) (e - nFr by_ p))).toInt < (0 : Int64).toInt := fun z => q1 (Int64.lt_iff_toInt_lt.mpr z)
      have q2 : ¬ (2147483647 : Int64).toInt < (vdL (blL by_ (nFr by_ p) (e - nFr by_ p))).toInt := fun z => q2 (Int64.lt_iff_toInt_lt.mpr z)
      omega
  · cases h3
theorem nU_lt {by_ : Nat → Int32} {p en : Nat} {wd ab : Bool} {x : Int64} (h : nU by_ p (some (en, wd, ab, x))) : p < en := by
  obtain ⟨e, h1, ⟨h2, h3⟩ | ⟨h2, h3⟩⟩ := h
  · have a1 := h2.1.1
    have a2 : p ≤ nFr by_ p := by unfold nFr; split <;> omega
    have a3 : en = (if by_ e = 76 then e + 1 else e) := by
      have := congrArg (fun o => (o.getD (0, false, false, 0)).1) h3
      exact this
    rw [a3]
    split <;> omega
  · cases h3
theorem nU_le {by_ : Nat → Int32} {len p en : Nat} {wd ab : Bool} {x : Int64} (hY : BY by_ len) (hp : p < len) (h : nU by_ p (some (en, wd, ab, x))) : en ≤ len := by
  obtain ⟨e, h1, ⟨h2, h3⟩ | ⟨h2, h3⟩⟩ := h
  · have a3 : en = (if by_ e = 76 then e + 1 else e) := by
      have := congrArg (fun o => (o.getD (0, false, false, 0)).1) h3
      exact this
    have hfl : nFr by_ p ≤ len := by
      unfold nFr
      split
      · rename_i z
        have z2 : by_ (p + 1) = 120 := by unfold nHx at z; simp at z; exact z.2
        rcases Nat.lt_or_ge (p + 1) len with y | y
        · omega
        · rw [hY.2.1 (p + 1) y] at z2; exact absurd z2 (by decide)
      · omega
    have hel : e ≤ len := rn_le hY (by cases nHx by_ p <;> decide) hfl h1
    rw [a3]
    split
    · rename_i z
      rcases Nat.lt_or_ge e len with y | y
      · omega
      · rw [hY.2.1 e y] at z; exact absurd z (by decide)
    · exact hel
  · cases h3
theorem sG_le {by_ : Nat → Int32} {len p n j : Nat} (hY : BY by_ len) (h : sG by_ p (some (n, j))) : p + n ≤ len := by
  obtain ⟨⟨h1, h2⟩, h3, h4, -⟩ := h
  rcases Nat.lt_or_ge len (p + n) with z | z
  · have g := (blL_get h4).2 (n - 1) (by omega)
    rw [hY.2.1 (p + (n - 1)) (by omega)] at g
    have hlen := (blL_get h4).1
    rw [gD_get (by omega)] at g
    exact absurd g (mkl_ne j (List.mem_range.mpr h3) _ (List.getElem_mem _))
  · exact z
theorem fld3 {z : RSt} {t : Nat} {s d : Int32} {y : Int64} : (sA (sB (sA z 2 t s) 4 t y) 5 t d).2.2.1 2 t = s ∧ (sA (sB (sA z 2 t s) 4 t y) 5 t d).2.2.1 3 t = z.2.2.1 3 t ∧ (sA (sB (sA z 2 t s) 4 t y) 5 t d).2.2.1 5 t = d ∧ (sA (sB (sA z 2 t s) 4 t y) 5 t d).2.2.2 4 t = y := by
  refine ⟨?_, ?_, sA_at, ?_⟩
  · rw [sA_ne (by decide)]; exact (show (sA z 2 t s).2.2.1 2 t = s from sA_at)
  · rw [sA_ne (by decide)]
    show (sA z 2 t s).2.2.1 3 t = _
    rw [sA_ne (by decide)]
  · show (sB (sA z 2 t s) 4 t y).2.2.2 4 t = y
    exact sB_at
section TokS
variable {by_ : Nat → Int32} {len N p : Nat} {v : CSt} {u : RSt} {l1 l1' : Int32}
/-- what is found of one token: b: none; else it ends at q -/
def TKo (len : Nat) (u : RSt) (v : CSt) (l1 l1' : Int32) (p : Nat) (r : Int32) (w : CSt) (r' : Int32) (w' : RSt) : Prop :=
  RFr u w' (u.1 8).toNatClampNeg ∧ w'.2.2.1 3 (u.1 8).toNatClampNeg = l1' ∧
    ((r = -1 ∧ w = xA v 204 (cI v 4).toNatClampNeg l1 ∧ w'.2.2.1 2 (u.1 8).toNatClampNeg = 0) ∨
     (∃ (q : Nat) (t : Int32) (x : Int64) (g : Int32), (p < q ∧ q ≤ len) ∧ r.toInt = (q : Int) ∧ r'.toInt = (q : Int) ∧ w = put3 (xA v 204 (cI v 4).toNatClampNeg l1) t x g ∧ ¬ w'.2.2.1 2 (u.1 8).toNatClampNeg = 0 ∧
       TKc t x g (w'.2.2.1 2 (u.1 8).toNatClampNeg) (w'.2.2.2 4 (u.1 8).toNatClampNeg) (w'.2.2.1 5 (u.1 8).toNatClampNeg) (w'.2.2.2 6 (u.1 8).toNatClampNeg) (w'.2.2.2 7 (u.1 8).toNatClampNeg)))
theorem tok_same (hY : BY by_ len) (hC : BC by_ len v) (hW : WT v) (hR : BR by_ len u) (hl : l1.toInt = (p : Int)) (hl' : l1'.toInt = (p : Int)) (hp : p < len) : pq (F_X9_readToken N l1 v) (fun r w => pp (F_token N l1' u) (fun r' w' => TKo len u v l1 l1' p r w r' w')) := by
  have hb := hY.1
  have e1 : (1 : Int32).toInt = 1 := by decide
  have e2 : (2 : Int32).toInt = 2 := by decide
  have e3 : (3 : Int32).toInt = 3 := by decide
  have hC' : BC by_ len (xA v 204 (cI v 4).toNatClampNeg l1) := ⟨hC.1, hC.2⟩
  have hW' : WT (xA v 204 (cI v 4).toNatClampNeg l1) := hW
  obtain ⟨dw1, dw2, dw3⟩ := byte_all (P := fun c => (dB c = true ↔ ¬ c < 48 ∧ ¬ 57 < c) ∧ (dB c = true → wdB c = true) ∧ (r_dig c = 0 ↔ dB c = false)) dig_w (by_ p) (hY.b p).1 (hY.b p).2
  have lw := byte_all (P := fun c => ¬ r_let c = 0 ↔ wdB c = true ∧ dB c = false) let_w (by_ p) (hY.b p).1 (hY.b p).2
  -- the reference up to where the sorts part
  have ref : ∀ (Z : Int32 → RSt → Prop), (∀ z : RSt, RFr u z (u.1 8).toNatClampNeg → z.2.2.1 3 (u.1 8).toNatClampNeg = l1' → z.2.2.1 2 (u.1 8).toNatClampNeg = 0 → z.2.2.1 5 (u.1 8).toNatClampNeg = vp_nar .boolean 0 → BR by_ len z → z.1 8 = u.1 8 → pp (if (r_let (by_ p)) = (0 : Int32) then (if (r_dig (by_ p)) = (0 : Int32) then (if (by_ p) = (39 : Int32) then (bn (F_see N (l1' + 1) z) fun r_26 u_25 => if r_26 < (32 : Int32) then (some (l1' + 3, u_25)) else (bn (F_see N (l1' + 1) u_25) fun r_29 u_28 => if (126 : Int32) < r_29 then (some (l1' + 3, u_28)) else (bn (F_see N (l1' + 2) u_28) fun r_32 u_31 => if r_32 = (39 : Int32) then (wr 1502 (u.1 8) (sA u_31 2 (u.1 8).toNatClampNeg 4) fun u_34 => bn (F_see N (l1' + 1) u_34) fun r_37 u_36 => wr 1502 (u.1 8) (sB u_36 4 (u.1 8).toNatClampNeg r_37.toInt64) fun u_38 => some (l1' + 3, u_38)) else (some (l1' + 3, u_31))))) else (LP_token_135 N N (l1', (u.1 8), 4, z))) else (bn (F_figures N l1' z) fun r_41 u_40 => some (r_41, u_40))) else (bn (F_word N l1' z) fun r_43 u_42 => some (r_43, u_42))) Z) → pp (F_token N l1' u) Z := by
    intro Z hZ
    unfold F_token B_token_0
    refine r_see hY hR hl' (pp_wr (pp_wr (pp_wr (pp_wr ?_))))
    refine hZ _ (((((RFr.rf (u := u)).a (Or.inr (Or.inl rfl))).a (Or.inl rfl)).a (Or.inr (Or.inr rfl))).b (Or.inl rfl)) ?_ ?_ ?_ ⟨hR.1, hR.2⟩ rfl
    · show (sA (sA (sA u 3 (u.1 8).toNatClampNeg l1') 2 (u.1 8).toNatClampNeg 0) 5 (u.1 8).toNatClampNeg (vp_nar .boolean 0)).2.2.1 3 (u.1 8).toNatClampNeg = l1'
      rw [sA_ne (by decide), sA_ne (by decide)]
      exact sA_at
    · show (sA (sA (sA u 3 (u.1 8).toNatClampNeg l1') 2 (u.1 8).toNatClampNeg 0) 5 (u.1 8).toNatClampNeg (vp_nar .boolean 0)).2.2.1 2 (u.1 8).toNatClampNeg = 0
      rw [sA_ne (by decide)]
      exact sA_at
    · show (sA (sA (sA u 3 (u.1 8).toNatClampNeg l1') 2 (u.1 8).toNatClampNeg 0) 5 (u.1 8).toNatClampNeg (vp_nar .boolean 0)).2.2.1 5 (u.1 8).toNatClampNeg = _
      exact sA_at
  unfold F_X9_readToken B_X9_readToken_0
  refine c_byte hY hC hl (pq_wc ?_)
  have wordOrSign : dB (by_ p) = false → pq (B_X9_readToken_34 N l1 (by_ p) (xA v 204 (cI v 4).toNatClampNeg l1)) (fun r w => pp (F_token N l1' u) (fun r' w' => TKo len u v l1 l1' p r w r' w')) := by
    intro nd
    unfold B_X9_readToken_34
    refine pq_pb (fun a ha => ?_)
    rw [wB_c hY p] at ha
    by_cases z : wdB (by_ p) = true
    · -- a word
      rw [if_pos z] at ha
      cases ha
      rw [if_neg (by decide)]
      refine pq_bc (pq_m (c_word hY hC' hW' hl hp) (fun r w hw => pq_some (ref _ (fun y y1 y2 y3 y4 y5 y6 => ?_))))
      rw [if_neg (lw.mpr ⟨z, nd⟩)]
      refine pp_bn (pp_m (r_word hY y5 hl' hp) (fun r' w' hw' => pp_some ?_))
      obtain ⟨q, hq, hql, hw⟩ := hw
      obtain ⟨q', hq', -, hr', hw'⟩ := hw'
      have eq := rn_dt hq' hq
      subst eq
      rw [y6] at hw'
      have hpq : p < q' := by
        rcases Nat.lt_or_eq_of_le hq.1 with x | x
        · exact x
        · rw [← x] at hq
          have := hq.2.2
          rw [z] at this
          cases this
      rcases hw with ⟨n12, hr, hw⟩ | ⟨n12, hr, hw⟩
      · rcases hw' with ⟨-, -, g3⟩ | ⟨k, k1, k2, -⟩ | ⟨g1, -⟩
        · rw [g3]
          exact ⟨y1, y2, Or.inl ⟨hr, hw, y3⟩⟩
        · have := (kwl_ok k k1).2
          rw [k2, blL_len] at this
          omega
        · omega
      · rcases hw with ⟨k, k1, k2, x, g, hw⟩ | ⟨k1, hw⟩
        · rcases hw' with ⟨-, g2, -⟩ | ⟨k', k1', k2', g3⟩ | ⟨-, g2, -⟩
          · exact absurd k2 (g2 k k1)
          · have ek : k' = k := (show ∀ a ∈ List.range 29, ∀ b ∈ List.range 29, kwl.getD a [] = kwl.getD b [] → a = b by decide +kernel) k' (List.mem_range.mpr k1') k (List.mem_range.mpr k1) (k2'.trans k2.symm)
            subst ek
            obtain ⟨p1, p2, p3, p4, p5⟩ := kw_pr k' (List.mem_range.mpr k1')
            rw [g3]
            refine ⟨y1.a (Or.inl rfl), ?_, Or.inr ⟨q', _, x, g, ⟨hpq, hql⟩, hr, hr', hw, ?_, ?_⟩⟩
            · rw [sA_ne (by decide)]; exact y2
            · rw [sA_at]; exact p5
            · rw [sA_at]
              exact ⟨p1, fun c => absurd c p2, fun c => absurd c p3, fun c => absurd c p4⟩
          · exact absurd k2 (g2 k k1)
        · rcases hw' with ⟨g1, -⟩ | ⟨k', k1', k2', -⟩ | ⟨-, -, g3⟩
          · omega
          · exact absurd k2' (k1 k' k1')
          · rw [g3]
            have hA : (sB (sB (sA y 2 (u.1 8).toNatClampNeg 1) 6 (u.1 8).toNatClampNeg (pkL ((blL by_ p (q' - p)).take 6))) 7 (u.1 8).toNatClampNeg (pkL ((blL by_ p (q' - p)).drop 6))).2.2.1 2 (u.1 8).toNatClampNeg = 1 := by
              show (sA y 2 (u.1 8).toNatClampNeg 1).2.2.1 2 (u.1 8).toNatClampNeg = 1
              exact sA_at
            have h6 : (sB (sB (sA y 2 (u.1 8).toNatClampNeg 1) 6 (u.1 8).toNatClampNeg (pkL ((blL by_ p (q' - p)).take 6))) 7 (u.1 8).toNatClampNeg (pkL ((blL by_ p (q' - p)).drop 6))).2.2.2 6 (u.1 8).toNatClampNeg = pkL ((blL by_ p (q' - p)).take 6) := by
              rw [sB_ne (by decide)]; exact sB_at
            have h7 : (sB (sB (sA y 2 (u.1 8).toNatClampNeg 1) 6 (u.1 8).toNatClampNeg (pkL ((blL by_ p (q' - p)).take 6))) 7 (u.1 8).toNatClampNeg (pkL ((blL by_ p (q' - p)).drop 6))).2.2.2 7 (u.1 8).toNatClampNeg = pkL ((blL by_ p (q' - p)).drop 6) := sB_at
            refine ⟨((y1.a (Or.inl rfl)).b (Or.inr (Or.inl rfl))).b (Or.inr (Or.inr rfl)), ?_, Or.inr ⟨q', 128, _, _, ⟨hpq, hql⟩, hr, hr', hw, ?_, ?_⟩⟩
            · show (sA y 2 (u.1 8).toNatClampNeg 1).2.2.1 3 (u.1 8).toNatClampNeg = _
              rw [sA_ne (by decide)]; exact y2
            · rw [hA]; decide
            · rw [hA, h6, h7]
              refine ⟨by unfold SRe; decide +kernel, fun c => absurd c (by decide), fun c => absurd c (by decide), fun _ => ⟨blL by_ p (q' - p), ?_, blL_ok hY hq.2.1, rfl, rfl, rfl, rfl⟩⟩
              rw [blL_len]; exact n12
    · -- a CHARACTER or a sign
      rw [if_neg z] at ha
      cases ha
      rw [if_pos rfl]
      have nl : r_let (by_ p) = 0 := by
        by_cases q : r_let (by_ p) = 0
        · exact q
        · exact absurd (lw.mp q).1 z
      have ndd : r_dig (by_ p) = 0 := dw3.mpr nd
      have e11 : (l1 + 1).toInt = ((p + 1 : Nat) : Int) := by rw [tI_add (by omega) (by omega), e1, hl]; rfl
      have e12 : (l1 + 2).toInt = ((p + 2 : Nat) : Int) := by rw [tI_add (by omega) (by omega), e2, hl]; rfl
      have e13 : (l1 + 3).toInt = ((p + 3 : Nat) : Int) := by rw [tI_add (by omega) (by omega), e3, hl]; rfl
      have f11 : (l1' + 1).toInt = ((p + 1 : Nat) : Int) := by rw [tI_add (by omega) (by omega), e1, hl']; rfl
      have f12 : (l1' + 2).toInt = ((p + 2 : Nat) : Int) := by rw [tI_add (by omega) (by omega), e2, hl']; rfl
      have f13 : (l1' + 3).toInt = ((p + 3 : Nat) : Int) := by rw [tI_add (by omega) (by omega), e3, hl']; rfl
      have p3l : by_ (p + 2) = 39 → p + 3 ≤ len := by
        intro q
        rcases Nat.lt_or_ge (p + 2) len with y | y
        · omega
        · rw [hY.2.1 (p + 2) y] at q; exact absurd q (by decide)
      refine pq_if (fun c39 => ?_) (fun c39 => ?_)
      · unfold F_X9_readCharacter B_X9_readCharacter_0
        refine pq_bc (c_byte hY hC' e11 (pq_if (fun c1 => ?_) (fun c1 => pq_if (fun c2 => ?_) (fun c2 => c_byte hY hC' e12 (pq_if (fun c3 => ?_) (fun c3 => ?_))))))
        · refine pq_some (pq_some (ref _ (fun y y1 y2 y3 y4 y5 y6 => ?_)))
          rw [if_pos nl, if_pos ndd, if_pos c39]
          refine r_see hY y5 f11 ?_
          rw [if_pos c1]
          exact pp_some ⟨y1, y2, Or.inl ⟨rfl, rfl, y3⟩⟩
        · refine pq_some (pq_some (ref _ (fun y y1 y2 y3 y4 y5 y6 => ?_)))
          rw [if_pos nl, if_pos ndd, if_pos c39]
          refine r_see hY y5 f11 ?_
          rw [if_neg c1]
          refine r_see hY y5 f11 ?_
          rw [if_pos c2]
          exact pp_some ⟨y1, y2, Or.inl ⟨rfl, rfl, y3⟩⟩
        · refine c_put (pq_some (pq_some (ref _ (fun y y1 y2 y3 y4 y5 y6 => ?_))))
          rw [if_pos nl, if_pos ndd, if_pos c39]
          refine r_see hY y5 f11 ?_
          rw [if_neg c1]
          refine r_see hY y5 f11 ?_
          rw [if_neg c2]
          refine r_see hY y5 f12 ?_
          rw [if_pos c3]
          have y5' : BR by_ len (sA y 2 (u.1 8).toNatClampNeg 4) := ⟨y5.1, y5.2⟩
          refine pp_wr (r_see hY y5' f11 (pp_wr (pp_some ⟨(y1.a (Or.inl rfl)).b (Or.inl rfl), ?_, Or.inr ⟨p + 3, 130, _, 0, ⟨by omega, p3l c3⟩, e13, f13, rfl, ?_, ?_⟩⟩)))
          · show (sA y 2 (u.1 8).toNatClampNeg 4).2.2.1 3 (u.1 8).toNatClampNeg = _
            rw [sA_ne (by decide)]; exact y2
          · show ¬ (sA y 2 (u.1 8).toNatClampNeg 4).2.2.1 2 (u.1 8).toNatClampNeg = 0
            rw [sA_at]; decide
          · have g1 : (sB (sA y 2 (u.1 8).toNatClampNeg 4) 4 (u.1 8).toNatClampNeg (by_ (p + 1)).toInt64).2.2.1 2 (u.1 8).toNatClampNeg = 4 := by
              show (sA y 2 (u.1 8).toNatClampNeg 4).2.2.1 2 (u.1 8).toNatClampNeg = 4
              exact sA_at
            have g2 : (sB (sA y 2 (u.1 8).toNatClampNeg 4) 4 (u.1 8).toNatClampNeg (by_ (p + 1)).toInt64).2.2.1 5 (u.1 8).toNatClampNeg = vp_nar .boolean 0 := by
              show (sA y 2 (u.1 8).toNatClampNeg 4).2.2.1 5 (u.1 8).toNatClampNeg = _
              rw [sA_ne (by decide)]; exact y4
            rw [g1, g2, sB_at]
            exact ⟨by unfold SRe; decide +kernel, fun c => absurd c (by decide), fun _ => ⟨rfl, rfl, by decide, rng_b _⟩, fun c => absurd c (by decide)⟩
        · refine pq_some (pq_some (ref _ (fun y y1 y2 y3 y4 y5 y6 => ?_)))
          rw [if_pos nl, if_pos ndd, if_pos c39]
          refine r_see hY y5 f11 ?_
          rw [if_neg c1]
          refine r_see hY y5 f11 ?_
          rw [if_neg c2]
          refine r_see hY y5 f12 ?_
          rw [if_neg c3]
          exact pp_some ⟨y1, y2, Or.inl ⟨rfl, rfl, y3⟩⟩
      · refine pq_bc (pq_m (c_sign hY hC' hl hp) (fun r w hw => pq_some (ref _ (fun y y1 y2 y3 y4 y5 y6 => ?_))))
        rw [if_pos nl, if_pos ndd, if_neg c39]
        refine pp_m (r_sign hY y5 hl' hp) (fun r' w' hw' => ?_)
        rcases hw with ⟨n, j, s1, s2, s3⟩ | ⟨s1, s2, s3⟩ <;> rcases hw' with ⟨n', j', g1, g2, g3⟩ | ⟨g1, g2, g3⟩
        · have := sG_dt s1 g1
          cases this
          obtain ⟨p1, p2, p3, p4, p5⟩ := mk_pr j (List.mem_range.mpr s1.2.1)
          rw [g3]
          refine ⟨y1.a (Or.inl rfl), ?_, Or.inr ⟨p + n, _, 0, 0, ⟨by have := s1.1.1; omega, sG_le hY s1⟩, s2, g2, s3, ?_, ?_⟩⟩
          · rw [sA_ne (by decide)]; exact y2
          · rw [sA_at]; exact p5
          · rw [sA_at]
            exact ⟨p1, fun c => absurd c p2, fun c => absurd c p3, fun c => absurd c p4⟩
        · cases sG_dt s1 g1
        · cases sG_dt s1 g1
        · rw [g3]
          exact ⟨y1, y2, Or.inl ⟨s2, s3, y3⟩⟩
  refine pq_if (fun c => wordOrSign ?_) (fun c => pq_if (fun c2 => wordOrSign ?_) (fun c2 => ?_))
  · cases hd : dB (by_ p) with
    | false => rfl
    | true => exact absurd c (dw1.mp hd).1
  · cases hd : dB (by_ p) with
    | false => rfl
    | true => exact absurd c2 (dw1.mp hd).2
  · have hd : dB (by_ p) = true := dw1.mpr ⟨c, c2⟩
    refine pq_bc (pq_m (c_number hY hC' hl hp hd) (fun r w hw => pq_some (ref _ (fun y y1 y2 y3 y4 y5 y6 => ?_))))
    have nl : r_let (by_ p) = 0 := by
      by_cases q : r_let (by_ p) = 0
      · exact q
      · have := (lw.mp q).2
        rw [hd] at this
        cases this
    have ndd : ¬ r_dig (by_ p) = 0 := fun q => by
      have := dw3.mp q
      rw [hd] at this
      cases this
    rw [if_pos nl, if_neg ndd]
    refine pp_bn (pp_m (r_number hY y5 hl' hp) (fun r' w' hw' => pp_some ?_))
    rw [y6] at hw'
    rcases hw with ⟨n1, n2, n3⟩ | ⟨en, wd, ab, x, n1, n2, n3⟩ <;> rcases hw' with ⟨g1, g2⟩ | ⟨en', wd', ab', x', yv, g1, g2, g3, g4⟩
    · rw [g2]
      exact ⟨y1, y2, Or.inl ⟨n2, n3, y3⟩⟩
    · cases nU_dt n1 g1
    · cases nU_dt n1 g1
    · have := nU_dt n1 g1
      cases this
      obtain ⟨q1, q2, q3, q4⟩ := fld3 (z := y) (t := (u.1 8).toNatClampNeg) (s := if ab = true then 3 else 2) (d := vp_nar .boolean (if wd = true then 1 else 0)) (y := yv)
      rw [g3]
      refine ⟨((y1.a (Or.inl rfl)).b (Or.inl rfl)).a (Or.inr (Or.inr rfl)), q2.trans y2, Or.inr ⟨en, 129, x, _, ⟨nU_lt n1, nU_le hY hp n1⟩, n2, g2, n3, ?_, ?_⟩⟩
      · rw [q1]
        cases ab <;> decide
      · rw [q1, q3, q4]
        refine ⟨by unfold SRe; cases ab <;> decide +kernel, fun _ => ⟨by cases ab <;> cases wd <;> decide, by cases ab <;> cases wd <;> decide, fun c => ⟨(g4 ?_).symm, fun c1 => nU_r n1 (by cases ab with | false => rfl | true => exact absurd c (by decide)) (by cases ab <;> cases wd <;> first | rfl | exact absurd c1 (by decide))⟩⟩, fun c => absurd c (by decide), fun c => absurd c (by decide)⟩
        cases ab with
        | false => rfl
        | true => exact absurd c (by decide)
end TokS
