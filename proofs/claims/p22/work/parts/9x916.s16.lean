/-! Tokens: what the class puts for a sign, a word. -/
def put3 (v : CSt) (t : Int32) (x : Int64) (g : Int32) : CSt := xA (xB (xA v 203 (cI v 4).toNatClampNeg t) 205 (cI v 4).toNatClampNeg x) 206 (cI v 4).toNatClampNeg g
section PutC
variable {by_ : Nat → Int32} {len N p : Nat} {v : CSt} {l1 : Int32} {β : Type} {Q : β → CSt → Prop}
theorem c_put {t : Int32} {x : Int64} {g : Int32} {k : Int32 → CSt → Option (β × CSt)} (kk : pq (k 0 (put3 v t x g)) Q) : pq (bc (F_X9_put N t x g v) k) Q := by
  refine pq_bc ?_
  unfold F_X9_put B_X9_put_0
  exact pq_wc (pq_wc (pq_wc (pq_some kk)))
theorem hf0 (c : Int32) : hf32 0 c = c := by
  unfold hf32
  rw [show ((0 : Int32) <<< (8 &&& 31)) = 0 by decide]
  exact Int32.zero_or
theorem c_sign (hY : BY by_ len) (h : BC by_ len v) (hl : l1.toInt = (p : Int)) (hp : p < len) : pq (F_X9_readSign N l1 v) (fun r w => (∃ n j : Nat, sG by_ p (some (n, j)) ∧ r.toInt = (p + n : Nat) ∧ w = put3 v (pkS (mkl.getD j [])) 0 0) ∨ (sG by_ p none ∧ r = -1 ∧ w = v)) := by
  have hb := hY.1
  have e1 : (1 : Int32).toInt = 1 := by decide
  unfold F_X9_readSign B_X9_readSign_0
  refine c_byte hY h hl ?_
  have fi := byte_all (P := fun c => ¬ c < 0 ∧ 0 ≤ six ((c.toUInt32 % 65536).toInt32) ↔ c ∈ sgl) f_in (by_ p) (hY.b p).1 (hY.b p).2
  refine pq_if (fun c => pq_some (Or.inr ⟨sG_no (fun q => (fi.mpr q).1 c), rfl, rfl⟩)) (fun c => pq_if (fun c2 => ?_) (fun c2 => pq_some (Or.inr ⟨sG_no (fun q => c2 (fi.mpr q).2), rfl, rfl⟩)))
  have hc := fi.mp ⟨c, c2⟩
  obtain ⟨m0, m3, m1, c0, c8⟩ := f_most _ hc
  refine pq_pb (fun a ha => ?_)
  have ea : a = Int32.ofNat (mostR (by_ p)) := by
    have h1 : F_X9_mostRepeats N (by_ p) = some (Int32.ofNat (mostR (by_ p))) := m0
    rw [h1] at ha
    cases ha
    rfl
  have ia : a.toInt = (mostR (by_ p) : Int) := by rw [ea, Int32.toInt_ofNat_of_lt (by omega)]
  have fin98 : ∀ (m : Nat) (l3 l4 : Int32) (j : Nat), l4.toInt = (m : Int) → m ≤ 4 → sG by_ p (some (m, j)) → l3 = pkS (mkl.getD j []) → pq (B_X9_readSign_98 N l1 l3 l4 v) (fun r w => (∃ n j : Nat, sG by_ p (some (n, j)) ∧ r.toInt = (p + n : Nat) ∧ w = put3 v (pkS (mkl.getD j [])) 0 0) ∨ (sG by_ p none ∧ r = -1 ∧ w = v)) := by
    intro m l3 l4 j h4 hm hs h3
    unfold B_X9_readSign_98
    refine c_put (pq_some (Or.inl ⟨m, j, hs, ?_, by rw [h3]⟩))
    rw [tI_add (by omega) (by omega), hl, h4]; rfl
  have fin65 : ∀ (m : Nat) (l3 l4 : Int32), l4.toInt = (m : Int) → 1 ≤ m → m ≤ mostR (by_ p) → (∀ k, k < m → by_ (p + k) = by_ p) → l3 = pkS (List.replicate m (by_ p)) → (m = mostR (by_ p) ∨ ¬ by_ (p + m) = by_ p) → pq (B_X9_readSign_65 N l1 (by_ p) l3 l4 v) (fun r w => (∃ n j : Nat, sG by_ p (some (n, j)) ∧ r.toInt = (p + n : Nat) ∧ w = put3 v (pkS (mkl.getD j [])) 0 0) ∨ (sG by_ p none ∧ r = -1 ∧ w = v)) := by
    intro m l3 l4 h4 hm1 hm hk h3 hmx
    obtain ⟨s1, s2⟩ := sG_of hc hm1 hm hk hmx
    unfold B_X9_readSign_65
    have e14 : (l1 + l4).toInt = ((p + m : Nat) : Int) := by rw [tI_add (by omega) (by omega), hl, h4]; rfl
    have plain : ¬ (by_ (p + m) = 61 ∧ takeE (by_ p) m = true) → pq (B_X9_readSign_98 N l1 l3 l4 v) (fun r w => (∃ n j : Nat, sG by_ p (some (n, j)) ∧ r.toInt = (p + n : Nat) ∧ w = put3 v (pkS (mkl.getD j [])) 0 0) ∨ (sG by_ p none ∧ r = -1 ∧ w = v)) := by
      intro q
      obtain ⟨j, g1, g2⟩ := s2 q
      exact fin98 m l3 l4 j h4 (by omega) g1 (by rw [g2]; exact h3)
    refine c_byte hY h e14 ?_
    refine pq_if (fun c3 => pq_pb (fun b hb2 => ?_)) (fun c3 => plain (fun q => c3 q.1))
    have hr3 : m ∈ ([1, 2, 3] : List Nat) := by
      rcases (show m = 1 ∨ m = 2 ∨ m = 3 by omega) with q | q | q <;> (rw [q]; decide)
    have e4 : l4 = Int32.ofNat m := tI_eq.mpr (by rw [h4, Int32.toInt_ofNat_of_lt (by omega)])
    have ft : F_X9_takesEquals N (by_ p) l4 = some (if takeE (by_ p) m = true then 1 else 0) := by
      rw [e4]
      exact f_takes _ hc m hr3
    rw [ft] at hb2
    by_cases z : takeE (by_ p) m = true
    · rw [if_pos z] at hb2
      cases hb2
      rw [if_neg (by decide)]
      obtain ⟨j, g1, g2⟩ := s1 c3 z
      refine fin98 (m + 1) _ _ j ?_ (by omega) g1 ?_
      · rw [tI_add (by omega) (by omega), e1, h4]; rfl
      · rw [g2, pkS_snoc, ← h3]; rfl
    · rw [if_neg z] at hb2
      cases hb2
      rw [if_pos rfl]
      exact plain (fun q => z q.2)
  have loop : ∀ (M : Nat) (x : Int32 × Int32 × Int32 × Int32 × Int32 × CSt), (x.1 = l1 ∧ x.2.1 = by_ p ∧ x.2.2.2.2.1 = a ∧ x.2.2.2.2.2 = v ∧ ∃ m : Nat, x.2.2.2.1.toInt = (m : Int) ∧ 1 ≤ m ∧ m ≤ mostR (by_ p) ∧ (∀ k, k < m → by_ (p + k) = by_ p) ∧ x.2.2.1 = pkS (List.replicate m (by_ p))) → pq (LP_X9_readSign_33 N M x) (fun r w => (∃ n j : Nat, sG by_ p (some (n, j)) ∧ r.toInt = (p + n : Nat) ∧ w = put3 v (pkS (mkl.getD j [])) 0 0) ∨ (sG by_ p none ∧ r = -1 ∧ w = v)) := by
    refine pq_lp (Z := fun _ (r : Int32) w => (∃ n j : Nat, sG by_ p (some (n, j)) ∧ r.toInt = (p + n : Nat) ∧ w = put3 v (pkS (mkl.getD j [])) 0 0) ∨ (sG by_ p none ∧ r = -1 ∧ w = v)) (fun (x : Int32 × Int32 × Int32 × Int32 × Int32 × CSt) => x.1 = l1 ∧ x.2.1 = by_ p ∧ x.2.2.2.2.1 = a ∧ x.2.2.2.2.2 = v ∧ ∃ m : Nat, x.2.2.2.1.toInt = (m : Int) ∧ 1 ≤ m ∧ m ≤ mostR (by_ p) ∧ (∀ k, k < m → by_ (p + k) = by_ p) ∧ x.2.2.1 = pkS (List.replicate m (by_ p))) ?_
    rintro R ⟨x1, x2, x3, x4, x5, v'⟩ ⟨q1, q2, q3, q4, m, h4, hm1, hm, hk, h3⟩ ih
    dsimp only at q1 q2 q3 q4 h4 h3 ih ⊢
    subst q1
    subst q3
    subst q4
    rw [q2]
    show pq (B_X9_readSign_33 N R x1 (by_ p) x3 x4 x5 v') _
    unfold B_X9_readSign_33
    refine pq_if (fun c5 => ?_) (fun c5 => ?_)
    · have := Int32.le_iff_toInt_le.mp c5
      exact fin65 m x3 x4 h4 hm1 hm hk h3 (Or.inl (by omega))
    · have c6 : m < mostR (by_ p) := by
        have := Int32.not_le.mp c5
        have := Int32.lt_iff_toInt_lt.mp this
        omega
      have e14 : (x1 + x4).toInt = ((p + m : Nat) : Int) := by rw [tI_add (by omega) (by omega), hl, h4]; rfl
      refine c_byte hY h e14 ?_
      refine pq_if (fun c7 => ?_) (fun c7 => fin65 m x3 x4 h4 hm1 hm hk h3 (Or.inr c7))
      refine ih (x1, by_ p, hf32 x3 (by_ p), x4 + 1, x5, v') ⟨rfl, rfl, rfl, rfl, m + 1, ?_, by omega, by omega, fun k hk2 => ?_, ?_⟩
      · show (x4 + 1).toInt = _
        rw [tI_add (by omega) (by omega), e1, h4]; rfl
      · rcases Nat.lt_or_eq_of_le (Nat.le_of_lt_succ hk2) with z | z
        · exact hk k z
        · rw [z]; exact c7
      · show hf32 x3 (by_ p) = _
        rw [List.replicate_succ', pkS_snoc, h3]
  refine loop N (l1, by_ p, by_ p, 1, a, v) ⟨rfl, rfl, rfl, rfl, 1, (show (1 : Int32).toInt = ((1 : Nat) : Int) by decide), by omega, m1, fun k hk => ?_, ?_⟩
  · rw [show k = 0 by omega]; rfl
  · show by_ p = hf32 0 (by_ p)
    rw [hf0]
theorem c_word (hY : BY by_ len) (h : BC by_ len v) (hW : WT v) (hl : l1.toInt = (p : Int)) (hp : p < len) : pq (F_X9_readWord N l1 v) (fun r w => ∃ q : Nat, rn wdB by_ p q ∧ q ≤ len ∧ ((12 < q - p ∧ r = -1 ∧ w = v) ∨ (q - p ≤ 12 ∧ r.toInt = (q : Int) ∧ ((∃ k : Nat, k < 29 ∧ kwl.getD k [] = blL by_ p (q - p) ∧ ∃ x g, w = put3 v (Int32.ofNat (k + 1)) x g) ∨ ((∀ k, k < 29 → ¬ kwl.getD k [] = blL by_ p (q - p)) ∧ w = put3 v 128 (pkL ((blL by_ p (q - p)).take 8)) (pkS ((blL by_ p (q - p)).drop 8))))))) := by
  have hb := hY.1
  have e1 : (1 : Int32).toInt = 1 := by decide
  have e12 : (12 : Int32).toInt = 12 := by decide
  have f27 : ∀ (l2 : Int32) (q : Nat), l2.toInt = (q : Int) → rn wdB by_ p q → q ≤ len → pq (B_X9_readWord_27 N l1 l2 v) (fun r w => ∃ q : Nat, rn wdB by_ p q ∧ q ≤ len ∧ ((12 < q - p ∧ r = -1 ∧ w = v) ∨ (q - p ≤ 12 ∧ r.toInt = (q : Int) ∧ ((∃ k : Nat, k < 29 ∧ kwl.getD k [] = blL by_ p (q - p) ∧ ∃ x g, w = put3 v (Int32.ofNat (k + 1)) x g) ∨ ((∀ k, k < 29 → ¬ kwl.getD k [] = blL by_ p (q - p)) ∧ w = put3 v 128 (pkL ((blL by_ p (q - p)).take 8)) (pkS ((blL by_ p (q - p)).drop 8))))))) := by
    intro l2 q h2 hr hq
    have hpq := hr.1
    have hok := blL_ok hY hr.2.1
    have esub : (l2 - l1).toInt = ((q - p : Nat) : Int) := by rw [tI_sub (by omega) (by omega), h2, hl]; omega
    unfold B_X9_readWord_27
    refine pq_if (fun c => ?_) (fun c => ?_)
    · have c1 : q - p ≤ 12 := by have := Int32.le_iff_toInt_le.mp c; omega
      refine pq_bc (pq_m (c_head hY h hl h2 hpq hq) (fun r3 w3 h3 => ?_))
      obtain ⟨g1, g2⟩ := h3
      subst g1
      refine pq_bc (pq_m (c_tail hY h hl h2 hpq hq) (fun r4 w4 h4 => ?_))
      obtain ⟨g3, g4⟩ := h4
      subst g3
      have et : (blL by_ p (q - p)).take 8 = blL by_ p (min 8 (q - p)) := blL_take _ _ _ _
      have ed : (blL by_ p (q - p)).drop 8 = blL by_ (p + 8) (q - p - 8) := blL_drop _ _ _ _
      unfold B_X9_readWord_69
      refine pq_if (fun c2 => ?_) (fun c2 => ?_)
      · -- no tail: at most 8 bytes
        have h8 : q - p ≤ 8 := by
          by_cases z : q - p ≤ 8
          · exact z
          · have hn : okB (blL by_ (p + 8) (q - p - 8)) := by rw [← ed]; exact okB_drop hok 8
            have hl8 : (blL by_ (p + 8) (q - p - 8)).length = q - p - 8 := blL_len _ _ _
            have e0 : pkS (blL by_ (p + 8) (q - p - 8)) = pkS [] := by rw [← g4, c2]; rfl
            have := pkS_inj (by rw [hl8]; omega) (by decide) hn (fun x hx => absurd hx (by simp)) e0
            rw [this] at hl8
            simp at hl8
            omega
        have e8 : blL by_ p (min 8 (q - p)) = blL by_ p (q - p) := by rw [show min 8 (q - p) = q - p by omega]
        rw [g2, e8]
        refine pq_bc (pq_m (c_wtype hW hok (by rw [blL_len]; exact h8)) (fun r5 w5 h5 => ?_))
        obtain ⟨g5, g6⟩ := h5
        subst g5
        refine c_put (pq_some ⟨q, hr, hq, Or.inr ⟨c1, h2, ?_⟩⟩)
        rcases g6 with ⟨k, k1, k2, k3⟩ | ⟨k1, k2⟩
        · refine Or.inl ⟨k, k1, k3, pkL (blL by_ p (q - p)), r4, ?_⟩
          rw [show r5 = Int32.ofNat (k + 1) from tI_eq.mpr (by rw [k2, Int32.toInt_ofNat_of_lt (by omega)])]
        · refine Or.inr ⟨k2, ?_⟩
          rw [k1, et, e8, ed, g4]
      · refine c_put (pq_some ⟨q, hr, hq, Or.inr ⟨c1, h2, Or.inr ⟨fun k hk he => ?_, ?_⟩⟩⟩)
        · have := (kwl_ok k hk).2
          rw [he, blL_len] at this
          refine c2 ?_
          rw [g4, show q - p - 8 = 0 by omega]
          rfl
        · rw [et, ed, g2, g4]
    · have c1 : 12 < q - p := by
        have := Int32.not_le.mp c
        have := Int32.lt_iff_toInt_lt.mp this
        omega
      exact pq_some ⟨q, hr, hq, Or.inl ⟨c1, rfl, rfl⟩⟩
  have loop : ∀ (M : Nat) (x : Int32 × Int32 × CSt), (x.1 = l1 ∧ x.2.2 = v ∧ ∃ m : Nat, x.2.1.toInt = (m : Int) ∧ p ≤ m ∧ m ≤ len ∧ ∀ k, p ≤ k → k < m → wdB (by_ k) = true) → pq (LP_X9_readWord_2 N M x) (fun r w => ∃ q : Nat, rn wdB by_ p q ∧ q ≤ len ∧ ((12 < q - p ∧ r = -1 ∧ w = v) ∨ (q - p ≤ 12 ∧ r.toInt = (q : Int) ∧ ((∃ k : Nat, k < 29 ∧ kwl.getD k [] = blL by_ p (q - p) ∧ ∃ x g, w = put3 v (Int32.ofNat (k + 1)) x g) ∨ ((∀ k, k < 29 → ¬ kwl.getD k [] = blL by_ p (q - p)) ∧ w = put3 v 128 (pkL ((blL by_ p (q - p)).take 8)) (pkS ((blL by_ p (q - p)).drop 8))))))) := by
    refine pq_lp (Z := fun _ (r : Int32) w => ∃ q : Nat, rn wdB by_ p q ∧ q ≤ len ∧ ((12 < q - p ∧ r = -1 ∧ w = v) ∨ (q - p ≤ 12 ∧ r.toInt = (q : Int) ∧ ((∃ k : Nat, k < 29 ∧ kwl.getD k [] = blL by_ p (q - p) ∧ ∃ x g, w = put3 v (Int32.ofNat (k + 1)) x g) ∨ ((∀ k, k < 29 → ¬ kwl.getD k [] = blL by_ p (q - p)) ∧ w = put3 v 128 (pkL ((blL by_ p (q - p)).take 8)) (pkS ((blL by_ p (q - p)).drop 8))))))) (fun (x : Int32 × Int32 × CSt) => x.1 = l1 ∧ x.2.2 = v ∧ ∃ m : Nat, x.2.1.toInt = (m : Int) ∧ p ≤ m ∧ m ≤ len ∧ ∀ k, p ≤ k → k < m → wdB (by_ k) = true) ?_
    rintro R ⟨x1, x2, v'⟩ ⟨q1, q2, m, h2, hm1, hm2, hk⟩ ih
    dsimp only at q1 q2 h2 ih ⊢
    subst q1
    subst q2
    show pq (B_X9_readWord_2 N R x1 x2 v') _
    unfold B_X9_readWord_2
    refine pq_if (fun c => ?_) (fun c => ?_)
    · have := Int32.le_iff_toInt_le.mp c
      have h3 := h.1
      have em : m = len := by omega
      refine f27 x2 m h2 ⟨hm1, hk, ?_⟩ hm2
      rw [em, hY.2.1 len (Nat.le_refl _)]
      decide
    · have c1 : m < len := by
        have := Int32.not_le.mp c
        have := Int32.lt_iff_toInt_lt.mp this
        have h3 := h.1
        omega
      refine c_byte hY h h2 (pq_pb (fun a ha => ?_))
      rw [wB_c hY m] at ha
      by_cases z : wdB (by_ m) = true
      · rw [if_pos z] at ha
        cases ha
        rw [if_neg (by decide)]
        refine ih (x1, x2 + 1, v') ⟨rfl, rfl, m + 1, ?_, by omega, by omega, fun k k1 k2 => ?_⟩
        · show (x2 + 1).toInt = _
          rw [tI_add (by omega) (by omega), e1, h2]; rfl
        · rcases Nat.lt_or_eq_of_le (Nat.le_of_lt_succ k2) with z2 | z2
          · exact hk k k1 z2
          · rw [z2]; exact z
      · rw [if_neg z] at ha
        cases ha
        rw [if_pos rfl]
        exact f27 x2 m h2 ⟨hm1, hk, by simpa using z⟩ hm2
  exact loop N (l1, l1, v) ⟨rfl, rfl, p, hl, Nat.le_refl _, by omega, fun k k1 k2 => absurd k2 (by omega)⟩
end PutC
section WordR2
variable {by_ : Nat → Int32} {len N p : Nat} {u : RSt} {l1 : Int32}
theorem r_word (hY : BY by_ len) (h : BR by_ len u) (hl : l1.toInt = (p : Int)) (hp : p < len) : pp (F_word N l1 u) (fun r w => ∃ q : Nat, rn wdB by_ p q ∧ q ≤ len ∧ r.toInt = (q : Int) ∧ ((12 < q - p ∧ (∀ k, k < 29 → ¬ kwl.getD k [] = blL by_ p (q - p)) ∧ w = u) ∨ (∃ k : Nat, k < 29 ∧ kwl.getD k [] = blL by_ p (q - p) ∧ w = sA u 2 (u.1 8).toNatClampNeg (100 + Int32.ofNat k)) ∨ (q - p ≤ 12 ∧ (∀ k, k < 29 → ¬ kwl.getD k [] = blL by_ p (q - p)) ∧ w = sB (sB (sA u 2 (u.1 8).toNatClampNeg 1) 6 (u.1 8).toNatClampNeg (pkL ((blL by_ p (q - p)).take 6))) 7 (u.1 8).toNatClampNeg (pkL ((blL by_ p (q - p)).drop 6))))) := by
  have hb := hY.1
  have e1 : (1 : Int32).toInt = 1 := by decide
  have e12 : (12 : Int32).toInt = 12 := by decide
  have loop : ∀ (M : Nat) (x : Int32 × Int32 × RSt), (x.1 = l1 ∧ x.2.2 = u ∧ ∃ m : Nat, x.2.1.toInt = (m : Int) ∧ p ≤ m ∧ m ≤ len ∧ ∀ k, p ≤ k → k < m → wdB (by_ k) = true) → pp (LP_word_2 N M x) (fun r w => ∃ q : Nat, rn wdB by_ p q ∧ q ≤ len ∧ r.toInt = (q : Int) ∧ ((12 < q - p ∧ (∀ k, k < 29 → ¬ kwl.getD k [] = blL by_ p (q - p)) ∧ w = u) ∨ (∃ k : Nat, k < 29 ∧ kwl.getD k [] = blL by_ p (q - p) ∧ w = sA u 2 (u.1 8).toNatClampNeg (100 + Int32.ofNat k)) ∨ (q - p ≤ 12 ∧ (∀ k, k < 29 → ¬ kwl.getD k [] = blL by_ p (q - p)) ∧ w = sB (sB (sA u 2 (u.1 8).toNatClampNeg 1) 6 (u.1 8).toNatClampNeg (pkL ((blL by_ p (q - p)).take 6))) 7 (u.1 8).toNatClampNeg (pkL ((blL by_ p (q - p)).drop 6))))) := by
    refine pp_lp (Z := fun _ (r : Int32) w => ∃ q : Nat, rn wdB by_ p q ∧ q ≤ len ∧ r.toInt = (q : Int) ∧ ((12 < q - p ∧ (∀ k, k < 29 → ¬ kwl.getD k [] = blL by_ p (q - p)) ∧ w = u) ∨ (∃ k : Nat, k < 29 ∧ kwl.getD k [] = blL by_ p (q - p) ∧ w = sA u 2 (u.1 8).toNatClampNeg (100 + Int32.ofNat k)) ∨ (q - p ≤ 12 ∧ (∀ k, k < 29 → ¬ kwl.getD k [] = blL by_ p (q - p)) ∧ w = sB (sB (sA u 2 (u.1 8).toNatClampNeg 1) 6 (u.1 8).toNatClampNeg (pkL ((blL by_ p (q - p)).take 6))) 7 (u.1 8).toNatClampNeg (pkL ((blL by_ p (q - p)).drop 6))))) (fun (x : Int32 × Int32 × RSt) => x.1 = l1 ∧ x.2.2 = u ∧ ∃ m : Nat, x.2.1.toInt = (m : Int) ∧ p ≤ m ∧ m ≤ len ∧ ∀ k, p ≤ k → k < m → wdB (by_ k) = true) ?_
    rintro R ⟨x1, x2, v⟩ ⟨q1, q2, m, h2, hm1, hm2, hk⟩ ih
    dsimp only at q1 q2 h2 ih ⊢
    subst q1
    subst q2
    show pp (B_word_2 N R x1 x2 v) _
    unfold B_word_2
    have on : wdB (by_ m) = true → pp (B_word_24 N R x1 x2 v) (fun r w => ∃ q : Nat, rn wdB by_ p q ∧ q ≤ len ∧ r.toInt = (q : Int) ∧ ((12 < q - p ∧ (∀ k, k < 29 → ¬ kwl.getD k [] = blL by_ p (q - p)) ∧ w = v) ∨ (∃ k : Nat, k < 29 ∧ kwl.getD k [] = blL by_ p (q - p) ∧ w = sA v 2 (v.1 8).toNatClampNeg (100 + Int32.ofNat k)) ∨ (q - p ≤ 12 ∧ (∀ k, k < 29 → ¬ kwl.getD k [] = blL by_ p (q - p)) ∧ w = sB (sB (sA v 2 (v.1 8).toNatClampNeg 1) 6 (v.1 8).toNatClampNeg (pkL ((blL by_ p (q - p)).take 6))) 7 (v.1 8).toNatClampNeg (pkL ((blL by_ p (q - p)).drop 6))))) := by
      intro z
      have c1 : m < len := by
        rcases Nat.lt_or_ge m len with y | y
        · exact y
        · rw [hY.2.1 m y] at z
          exact absurd z (by decide)
      unfold B_word_24
      refine ih (x1, x2 + 1, v) ⟨rfl, rfl, m + 1, ?_, by omega, by omega, fun k k1 k2 => ?_⟩
      · show (x2 + 1).toInt = _
        rw [tI_add (by omega) (by omega), e1, h2]; rfl
      · rcases Nat.lt_or_eq_of_le (Nat.le_of_lt_succ k2) with z2 | z2
        · exact hk k k1 z2
        · rw [z2]; exact z
    refine r_see hY h h2 (pp_if (fun c => ?_) (fun c => on (by unfold wdB; rw [decide_eq_false c]; rfl)))
    refine r_see hY h h2 (pp_if (fun c2 => ?_) (fun c2 => on (by unfold wdB; rw [decide_eq_false c2, Bool.and_false]; rfl)))
    have hr : rn wdB by_ p m := ⟨hm1, hk, by unfold wdB; rw [decide_eq_true c, decide_eq_true c2]; rfl⟩
    have esub : (x2 - x1).toInt = ((m - p : Nat) : Int) := by rw [tI_sub (by omega) (by omega), h2, hl]; omega
    refine r_among3 hY h hl esub (by omega) (by omega) (fun r hr2 => ?_)
    rcases hr2 with ⟨g1, g2⟩ | ⟨j, g1, g2, g3⟩
    · rw [if_pos g1]
      refine pp_if (fun c3 => ?_) (fun c3 => ?_)
      · have := Int32.lt_iff_toInt_lt.mp c3
        exact pp_some ⟨m, hr, hm2, h2, Or.inl ⟨by omega, g2, rfl⟩⟩
      · have c4 : m - p ≤ 12 := by
          have := Int32.not_lt.mp c3
          have := Int32.le_iff_toInt_le.mp this
          omega
        have h' : BR by_ len (sA v 2 (v.1 8).toNatClampNeg 1) := ⟨h.1, h.2⟩
        refine pp_wr (pp_bn (pp_m (r_packed (f := 0) hY h' hl h2 (by decide) hm1 hm2 (by omega)) (fun r3 w3 h3 => ?_)))
        obtain ⟨g3, g4⟩ := h3
        subst g3
        have h'' : BR by_ len (sB (sA v 2 (v.1 8).toNatClampNeg 1) 6 (v.1 8).toNatClampNeg r3) := ⟨h.1, h.2⟩
        refine pp_wr (pp_bn (pp_m (r_packed (f := 6) hY h'' hl h2 (by decide) hm1 hm2 (by omega)) (fun r5 w5 h5 => ?_)))
        obtain ⟨g5, g6⟩ := h5
        subst g5
        refine pp_wr (pp_some ⟨m, hr, hm2, h2, Or.inr (Or.inr ⟨c4, g2, ?_⟩)⟩)
        rw [g4, g6, blL_take, blL_drop]
        rw [show min 6 (m - p - 6) = m - p - 6 by omega]
        rfl
    · have ne : ¬ r = -1 := fun q => by
        rw [q] at g2
        have : (-1 : Int32).toInt = -1 := by decide
        omega
      rw [if_neg ne]
      refine pp_wr (pp_some ⟨m, hr, hm2, h2, Or.inr (Or.inl ⟨j, g1, g3, ?_⟩)⟩)
      rw [show r = Int32.ofNat j from tI_eq.mpr (by rw [g2, Int32.toInt_ofNat_of_lt (by omega)])]
  exact loop N (l1, l1, u) ⟨rfl, rfl, p, hl, Nat.le_refl _, by omega, fun k k1 k2 => absurd k2 (by omega)⟩
end WordR2
