/-! Tokens: signs of class and reference. -/
def sgl : List Int32 := [40, 41, 123, 125, 91, 93, 59, 44, 46, 63, 58, 61, 43, 45, 42, 47, 37, 38, 124, 94, 60, 62, 126, 33]
def mostR (c : Int32) : Nat := if c = 62 then 3 else if c ∈ ([60, 43, 45, 38, 124, 61, 46] : List Int32) then 2 else 1
def takeE (c : Int32) (r : Nat) : Bool := decide (c = 60) || decide (c = 62) || (decide (r = 1) && decide (c ∈ ([43, 45, 42, 47, 37, 38, 124, 94, 33] : List Int32)))
theorem f_most : ∀ c ∈ sgl, F_X9_mostRepeats 0 c = some (Int32.ofNat (mostR c)) ∧ mostR c ≤ 3 ∧ 1 ≤ mostR c ∧ 0 < c.toInt ∧ c.toInt < 128 := by decide +kernel
theorem f_takes : ∀ c ∈ sgl, ∀ r ∈ ([1, 2, 3] : List Nat), F_X9_takesEquals 0 c (Int32.ofNat r) = some (if takeE c r = true then 1 else 0) := by decide +kernel
theorem f_word : ∀ j ∈ List.range 47, (mkl.getD j []).getD 0 0 ∈ sgl ∧ ∃ r ∈ ([1, 2, 3] : List Nat), r ≤ mostR ((mkl.getD j []).getD 0 0) ∧ (mkl.getD j [] = List.replicate r ((mkl.getD j []).getD 0 0) ∨ (mkl.getD j [] = List.replicate r ((mkl.getD j []).getD 0 0) ++ [61] ∧ takeE ((mkl.getD j []).getD 0 0) r = true)) := by decide +kernel
theorem f_ex : ∀ c ∈ sgl, ∀ r ∈ ([1, 2, 3] : List Nat), r ≤ mostR c → (∃ j ∈ List.range 47, mkl.getD j [] = List.replicate r c) ∧ (takeE c r = true → ∃ j ∈ List.range 47, mkl.getD j [] = List.replicate r c ++ [61]) := by decide +kernel
theorem f_in : ∀ n : Nat, n < 257 → (¬ Int32.ofInt ((n : Int) - 1) < 0 ∧ 0 ≤ six (((Int32.ofInt ((n : Int) - 1)).toUInt32 % 65536).toInt32) ↔ Int32.ofInt ((n : Int) - 1) ∈ sgl) := by decide +kernel
/-- the longest sign from p on -/
def sG (by_ : Nat → Int32) (p : Nat) : Option (Nat × Nat) → Prop
  | some (n, j) => (1 ≤ n ∧ n ≤ 4) ∧ j < 47 ∧ mkl.getD j [] = blL by_ p n ∧ ∀ n', n < n' → n' ≤ 4 → ∀ j', j' < 47 → ¬ mkl.getD j' [] = blL by_ p n'
  | none => ∀ n', 1 ≤ n' → n' ≤ 4 → ∀ j', j' < 47 → ¬ mkl.getD j' [] = blL by_ p n'
theorem mkl_len : ∀ j ∈ List.range 47, 1 ≤ (mkl.getD j []).length ∧ (mkl.getD j []).length ≤ 4 := by decide +kernel
theorem mkl_nd : ∀ j ∈ List.range 47, ∀ j' ∈ List.range 47, mkl.getD j [] = mkl.getD j' [] → j = j' := by decide +kernel
theorem mkl_ne : ∀ j ∈ List.range 47, ∀ c ∈ mkl.getD j [], ¬ c = -1 := by decide +kernel
theorem sG_dt {by_ : Nat → Int32} {p : Nat} {a b : Option (Nat × Nat)} (h : sG by_ p a) (h' : sG by_ p b) : a = b := by
  cases a with
  | none =>
    cases b with
    | none => rfl
    | some x => exact absurd h'.2.2.1 (h x.1 h'.1.1 h'.1.2 x.2 h'.2.1)
  | some x =>
    cases b with
    | none => exact absurd h.2.2.1 (h' x.1 h.1.1 h.1.2 x.2 h.2.1)
    | some y =>
      obtain ⟨n, j⟩ := x
      obtain ⟨n', j'⟩ := y
      have e : n = n' := by
        rcases Nat.lt_trichotomy n n' with z | z | z
        · exact absurd h'.2.2.1 (h.2.2.2 n' z h'.1.2 j' h'.2.1)
        · exact z
        · exact absurd h.2.2.1 (h'.2.2.2 n z h.1.2 j h.2.1)
      subst e
      have := mkl_nd j (List.mem_range.mpr h.2.1) j' (List.mem_range.mpr h'.2.1) (h.2.2.1.trans h'.2.2.1.symm)
      rw [this]
theorem rep_bl {by_ : Nat → Int32} {p r : Nat} {c : Int32} (h : ∀ k, k < r → by_ (p + k) = c) : List.replicate r c = blL by_ p r := by
  refine blL_eq (List.length_replicate) (fun i hi => ?_)
  rw [gD_get (by rw [List.length_replicate]; exact hi), List.getElem_replicate, h i hi]
theorem bl_rep {by_ : Nat → Int32} {p r n : Nat} {c : Int32} {t : List Int32} (h : List.replicate r c ++ t = blL by_ p n) : n = r + t.length ∧ ∀ k, k < r → by_ (p + k) = c := by
  obtain ⟨h1, h2⟩ := blL_get h
  rw [List.length_append, List.length_replicate] at h1
  refine ⟨h1.symm, fun k hk => ?_⟩
  have := h2 k (by omega)
  rw [gD_get (by rw [List.length_append, List.length_replicate]; omega), List.getElem_append_left (by rw [List.length_replicate]; exact hk), List.getElem_replicate] at this
  exact this.symm
/-- r times c, then perhaps = -/
theorem sG_of {by_ : Nat → Int32} {p r : Nat} {c : Int32} (hc : c ∈ sgl) (hr1 : 1 ≤ r) (hr : r ≤ mostR c) (h : ∀ k, k < r → by_ (p + k) = c) (hm : r = mostR c ∨ ¬ by_ (p + r) = c) :
    (by_ (p + r) = 61 → takeE c r = true → ∃ j, sG by_ p (some (r + 1, j)) ∧ mkl.getD j [] = List.replicate r c ++ [61]) ∧ (¬ (by_ (p + r) = 61 ∧ takeE c r = true) → ∃ j, sG by_ p (some (r, j)) ∧ mkl.getD j [] = List.replicate r c) := by
  obtain ⟨-, m3, m1, -⟩ := f_most c hc
  have hr3 : r ∈ ([1, 2, 3] : List Nat) := by
    rcases (show r = 1 ∨ r = 2 ∨ r = 3 by omega) with q | q | q <;> (rw [q]; decide)
  obtain ⟨x1, x2⟩ := f_ex c hc r hr3 hr
  have big : ∀ n', n' ≤ 4 → ∀ j', j' < 47 → mkl.getD j' [] = blL by_ p n' → 1 ≤ n' → n' ≤ r ∨ (n' = r + 1 ∧ by_ (p + r) = 61 ∧ takeE c r = true) := by
    intro n' hn j' hj he hn1
    obtain ⟨w1, r', w2, w3, w4⟩ := f_word j' (List.mem_range.mpr hj)
    have ec : (mkl.getD j' []).getD 0 0 = c := by
      have := (blL_get he).2 0 (by omega)
      rw [this]
      exact h 0 (by omega)
    rw [ec] at w1 w3 w4
    have hle : ∀ n'' (t : List Int32), List.replicate r' c ++ t = blL by_ p n'' → r' ≤ r := by
      intro n'' t ht
      rcases Nat.lt_or_ge r r' with z | z
      · have := (bl_rep ht).2 r z
        rcases hm with q | q
        · omega
        · exact absurd this q
      · exact z
    rcases w4 with w4 | ⟨w4, w5⟩
    · rw [w4] at he
      have he2 : List.replicate r' c ++ [] = blL by_ p n' := by rw [List.append_nil]; exact he
      have := hle n' [] he2
      have h8 : n' = r' := (bl_rep he2).1
      exact Or.inl (by simpa using (by omega : n' ≤ r))
    · rw [w4] at he
      have h1 := hle n' [61] he
      have h2 := (bl_rep he).1
      have h3 : n' = r' + 1 := h2
      rcases Nat.lt_or_eq_of_le h1 with z | z
      · exact Or.inl (by omega)
      · subst z
        have h4 := (blL_get he).2 r' (by omega)
        rw [gD_get (by rw [List.length_append, List.length_replicate]; simp), List.getElem_append_right (by rw [List.length_replicate]; omega)] at h4
        refine Or.inr ⟨h3, ?_, w5⟩
        rw [← h4]
        simp
  constructor
  · intro e1 e2
    obtain ⟨j, hj, hw⟩ := x2 e2
    have hj2 := List.mem_range.mp hj
    have hbl : mkl.getD j [] = blL by_ p (r + 1) := by
      rw [hw, blL_succ, ← rep_bl h, e1]
    refine ⟨j, ⟨⟨by omega, by omega⟩, hj2, hbl, fun n' g1 g2 j' g3 g4 => ?_⟩, hw⟩
    rcases big n' g2 j' g3 g4 (by omega) with z | ⟨z, -⟩ <;> omega
  · intro hn
    obtain ⟨j, hj, hw⟩ := x1
    have hj2 := List.mem_range.mp hj
    have hbl : mkl.getD j [] = blL by_ p r := by rw [hw, ← rep_bl h]
    refine ⟨j, ⟨⟨hr1, by omega⟩, hj2, hbl, fun n' g1 g2 j' g3 g4 => ?_⟩, hw⟩
    rcases big n' g2 j' g3 g4 (by omega) with z | ⟨z1, z2, z3⟩
    · omega
    · exact hn ⟨z2, z3⟩
theorem sG_no {by_ : Nat → Int32} {p : Nat} (h : ¬ by_ p ∈ sgl) : sG by_ p none := by
  intro n' h1 h2 j' h3 h4
  obtain ⟨w1, -⟩ := f_word j' (List.mem_range.mpr h3)
  have := (blL_get h4).2 0 (by omega)
  rw [this] at w1
  exact h w1
section SignR
variable {by_ : Nat → Int32} {len N p : Nat} {u : RSt} {l1 l3 : Int32}
/-- the reference: the longest first -/
theorem r_sign (hY : BY by_ len) (h : BR by_ len u) (hl : l1.toInt = (p : Int)) (hp : p < len) : pp (LP_token_135 N N (l1, l3, 4, u)) (fun r w => (∃ n j : Nat, sG by_ p (some (n, j)) ∧ r.toInt = (p + n : Nat) ∧ w = sA u 2 l3.toNatClampNeg (200 + Int32.ofNat j)) ∨ (sG by_ p none ∧ r.toInt = (p + 1 : Nat) ∧ w = u)) := by
  have hb := hY.1
  have e0 : (0 : Int32).toInt = 0 := by decide
  have e1 : (1 : Int32).toInt = 1 := by decide
  have em : (-1 : Int32).toInt = -1 := by decide
  have loop : ∀ (M : Nat) (a : Int32 × Int32 × Int32 × RSt), (a.1 = l1 ∧ a.2.1 = l3 ∧ a.2.2.2 = u ∧ ∃ n : Nat, a.2.2.1.toInt = (n : Int) ∧ n ≤ 4 ∧ ∀ n', n < n' → n' ≤ 4 → ∀ j', j' < 47 → ¬ mkl.getD j' [] = blL by_ p n') → pp (LP_token_135 N M a) (fun r w => (∃ n j : Nat, sG by_ p (some (n, j)) ∧ r.toInt = (p + n : Nat) ∧ w = sA u 2 l3.toNatClampNeg (200 + Int32.ofNat j)) ∨ (sG by_ p none ∧ r.toInt = (p + 1 : Nat) ∧ w = u)) := by
    refine pp_lp (Z := fun _ (r : Int32) w => (∃ n j : Nat, sG by_ p (some (n, j)) ∧ r.toInt = (p + n : Nat) ∧ w = sA u 2 l3.toNatClampNeg (200 + Int32.ofNat j)) ∨ (sG by_ p none ∧ r.toInt = (p + 1 : Nat) ∧ w = u)) (fun (a : Int32 × Int32 × Int32 × RSt) => a.1 = l1 ∧ a.2.1 = l3 ∧ a.2.2.2 = u ∧ ∃ n : Nat, a.2.2.1.toInt = (n : Int) ∧ n ≤ 4 ∧ ∀ n', n < n' → n' ≤ 4 → ∀ j', j' < 47 → ¬ mkl.getD j' [] = blL by_ p n') ?_
    rintro R ⟨a1, a3, a4, v⟩ ⟨q1, q2, q3, n, h4, hn, hno⟩ ih
    dsimp only at q1 q2 q3 h4 ih ⊢
    subst q1
    subst q2
    subst q3
    show pp (B_token_135 N R a1 a3 a4 v) _
    unfold B_token_135
    refine pp_if (fun c => ?_) (fun c => ?_)
    · have c1 := Int32.le_iff_toInt_le.mp c
      refine pp_some (Or.inr ⟨fun n' g1 g2 j' g3 => hno n' (by omega) g2 j' g3, ?_, rfl⟩)
      rw [tI_add (by omega) (by omega), e1, hl]; rfl
    · have c1 : 0 < n := by
        have := Int32.not_le.mp c
        have := Int32.lt_iff_toInt_lt.mp this
        omega
      have e14 : (a1 + a4).toInt = (p + n : Nat) := by rw [tI_add (by omega) (by omega), hl, h4]; rfl
      have e4m : (a4 + (-1)).toInt = ((n - 1 : Nat) : Int) := by rw [tI_add (by omega) (by omega), em, h4]; omega
      have miss : (∀ j', j' < 47 → ¬ mkl.getD j' [] = blL by_ p n) → pp (B_token_164 N R a1 a3 a4 (-1) v) (fun r w => (∃ n j : Nat, sG by_ p (some (n, j)) ∧ r.toInt = (p + n : Nat) ∧ w = sA v 2 a3.toNatClampNeg (200 + Int32.ofNat j)) ∨ (sG by_ p none ∧ r.toInt = (p + 1 : Nat) ∧ w = v)) := by
        intro hm
        unfold B_token_164
        rw [if_pos rfl]
        refine ih (a1, a3, a4 + (-1), v) ⟨rfl, rfl, rfl, n - 1, e4m, by omega, fun n' g1 g2 j' g3 => ?_⟩
        rcases Nat.lt_or_eq_of_le (show n ≤ n' by omega) with z | z
        · exact hno n' z g2 j' g3
        · rw [← z]; exact hm j' g3
      refine pp_if (fun c2 => miss ?_) (fun c2 => ?_)
      · have c3 := Int32.lt_iff_toInt_lt.mp c2
        have h1 := h.1
        intro j' hj' he
        have g := (blL_get he).2 (n - 1) (by omega)
        rw [hY.2.1 (p + (n - 1)) (by omega)] at g
        have hlen := (blL_get he).1
        rw [gD_get (by omega)] at g
        exact mkl_ne j' (List.mem_range.mpr hj') _ (List.getElem_mem _) g
      · refine r_among4 hY h hl h4 (by omega) (by omega) (fun r hr => ?_)
        rcases hr with ⟨hr, hno2⟩ | ⟨j, hj, hr, he⟩
        · rw [hr]
          exact miss hno2
        · unfold B_token_164
          have ne : ¬ r = -1 := fun q => by rw [q] at hr; omega
          rw [if_neg ne]
          refine pp_wr (pp_some (Or.inl ⟨n, j, ⟨⟨c1, hn⟩, hj, he, hno⟩, e14, ?_⟩))
          have : r = Int32.ofNat j := tI_eq.mpr (by rw [hr, Int32.toInt_ofNat_of_lt (by omega)])
          rw [this]
  exact loop N (l1, l3, 4, u) ⟨rfl, rfl, rfl, 4, (show (4 : Int32).toInt = ((4 : Nat) : Int) by decide), by omega, fun n' g1 g2 => absurd g1 (by omega)⟩
end SignR
