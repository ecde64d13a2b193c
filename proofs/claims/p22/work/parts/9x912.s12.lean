/-! Tokens: the words of KEYS and MARKS, and how the reference finds them (laid by lexgen.py). -/
/-- n bytes from p on -/
def blL (by_ : Nat → Int32) (p n : Nat) : List Int32 := (List.range n).map (fun i => by_ (p + i))
theorem z32 : (0 : Int32).toInt = ((0 : Nat) : Int) := by decide
theorem o32 : ¬ (1 : Int32) = 0 := by decide
theorem blL_len (by_ : Nat → Int32) (p n : Nat) : (blL by_ p n).length = n := by unfold blL; rw [List.length_map, List.length_range]
theorem gD_get {w : List Int32} {i : Nat} (h : i < w.length) : w.getD i 0 = w[i] := by rw [List.getD_eq_getElem?_getD, List.getElem?_eq_getElem h]; rfl
theorem blL_at {by_ : Nat → Int32} {p n i : Nat} (h : i < (blL by_ p n).length) : (blL by_ p n)[i] = by_ (p + i) := by
  have key : ∀ (L : List Int32), L = (List.range n).map (fun i => by_ (p + i)) → ∀ hi : i < L.length, L[i] = by_ (p + i) := by
    intro L e hi
    subst e
    rw [List.getElem_map, List.getElem_range]
  exact key _ rfl h
theorem blL_eq {by_ : Nat → Int32} {p n : Nat} {w : List Int32} (h : w.length = n) (he : ∀ i, i < n → w.getD i 0 = by_ (p + i)) : w = blL by_ p n := by
  refine List.ext_getElem (by rw [blL_len, h]) (fun i h1 h2 => ?_)
  have := he i (by omega)
  rw [gD_get h1] at this
  rw [this, blL_at]
theorem blL_get {by_ : Nat → Int32} {p n : Nat} {w : List Int32} (h : w = blL by_ p n) : w.length = n ∧ ∀ i, i < n → w.getD i 0 = by_ (p + i) := by
  subst h
  refine ⟨blL_len _ _ _, fun i hi => ?_⟩
  rw [gD_get (by rw [blL_len]; exact hi)]
  unfold blL
  rw [List.getElem_map, List.getElem_range]
def offL (ws : List (List Int32)) : Nat → Nat
  | 0 => 0
  | j + 1 => offL ws j + (ws.getD j []).length + 1
def kwl : List (List Int32) := [[118, 97, 114], [107, 101, 101, 112], [105, 110], [111, 117, 116], [97, 116], [98, 108, 111, 99, 107], [117, 115, 101], [102, 117, 110, 99], [116, 97, 115, 107], [101, 118, 101, 114, 121], [97, 102, 116, 101, 114], [98, 121, 116, 101], [115, 104, 111, 114, 116], [119, 111, 114, 100], [105, 110, 116], [108, 111, 110, 103], [105, 102], [101, 108, 105, 102], [101, 108, 115, 101], [119, 104, 105, 108, 101], [102, 111, 114], [115, 119, 105, 116, 99, 104], [99, 97, 115, 101], [100, 101, 102, 97, 117, 108, 116], [98, 114, 101, 97, 107], [99, 111, 110, 116, 105, 110, 117, 101], [114, 101, 116, 117, 114, 110], [102, 97, 117, 108, 116], [110, 111, 119]]
def mkl : List (List Int32) := [[62, 62, 62, 61], [60, 60, 61], [62, 62, 61], [62, 62, 62], [46, 46], [43, 61], [45, 61], [42, 61], [47, 61], [37, 61], [38, 61], [124, 61], [94, 61], [43, 43], [45, 45], [124, 124], [38, 38], [61, 61], [33, 61], [60, 61], [62, 61], [60, 60], [62, 62], [40], [41], [123], [125], [91], [93], [59], [44], [46], [63], [58], [61], [124], [94], [38], [60], [62], [43], [45], [42], [47], [37], [126], [33]]
theorem off_3 : ∀ j, j < 29 → (∀ i, i < (kwl.getD j []).length → ch_3 (offL kwl j + i) = (kwl.getD j []).getD i 0 ∧ ¬ ch_3 (offL kwl j + i) = 32) ∧ ch_3 (offL kwl j + (kwl.getD j []).length) = 32 ∧ offL kwl j + (kwl.getD j []).length < 151 := by decide +kernel
theorem off_3_end : offL kwl 29 = 151 := by decide +kernel
section Among3
variable {by_ : Nat → Int32} {len N p n : Nat} {u : RSt} {l2 l3 : Int32} {β : Type} {Q : β → RSt → Prop}
theorem r_among3 {k : Int32 → RSt → Option (β × RSt)} (hY : BY by_ len) (h : BR by_ len u) (hl : l2.toInt = (p : Int)) (hn : l3.toInt = (n : Int)) (hp : p ≤ 6000) (hn2 : n ≤ 6000) (kk : ∀ r : Int32, ((r = -1 ∧ ∀ j, j < 29 → ¬ kwl.getD j [] = blL by_ p n) ∨ (∃ j : Nat, j < 29 ∧ r.toInt = (j : Int) ∧ kwl.getD j [] = blL by_ p n)) → pp (k r u) Q) : pp (bn (F_among_3 N l2 l3 u) k) Q := by
  have e1 : (1 : Int32).toInt = 1 := by decide
  have eC : (151 : Int32).toInt = 151 := by decide
  have loop : ∀ (M : Nat) (a : Int32 × Int32 × Int32 × Int32 × Int32 × RSt), (a.1 = l2 ∧ a.2.1 = l3 ∧ a.2.2.2.2.2 = u ∧ ∃ j i : Nat, a.2.2.1.toInt = (j : Int) ∧ a.2.2.2.1.toInt = (offL kwl j : Int) ∧ a.2.2.2.2.1.toInt = (offL kwl j + i : Int) ∧ j ≤ 29 ∧ (j < 29 → i ≤ (kwl.getD j []).length) ∧ (j = 29 → i = 0) ∧ ∀ j', j' < j → ¬ kwl.getD j' [] = blL by_ p n) → pp (LP_among_3_9 N M a) (fun r w => w = u ∧ ((r = -1 ∧ ∀ j, j < 29 → ¬ kwl.getD j [] = blL by_ p n) ∨ (∃ j : Nat, j < 29 ∧ r.toInt = (j : Int) ∧ kwl.getD j [] = blL by_ p n))) := by
    refine pp_lp (Z := fun _ (r : Int32) w => w = u ∧ ((r = -1 ∧ ∀ j, j < 29 → ¬ kwl.getD j [] = blL by_ p n) ∨ (∃ j : Nat, j < 29 ∧ r.toInt = (j : Int) ∧ kwl.getD j [] = blL by_ p n))) (fun (a : Int32 × Int32 × Int32 × Int32 × Int32 × RSt) => a.1 = l2 ∧ a.2.1 = l3 ∧ a.2.2.2.2.2 = u ∧ ∃ j i : Nat, a.2.2.1.toInt = (j : Int) ∧ a.2.2.2.1.toInt = (offL kwl j : Int) ∧ a.2.2.2.2.1.toInt = (offL kwl j + i : Int) ∧ j ≤ 29 ∧ (j < 29 → i ≤ (kwl.getD j []).length) ∧ (j = 29 → i = 0) ∧ ∀ j', j' < j → ¬ kwl.getD j' [] = blL by_ p n) ?_
    rintro R ⟨a1, a2, l4, l5, l6, v⟩ ⟨q1, q2, q3, j, i, h4, h5, h6, hj, hi1, hi2, hno⟩ ih
    dsimp only at q1 q2 q3 h4 h5 h6 ih ⊢
    subst q1
    subst q2
    subst q3
    show pp (B_among_3_9 N R a1 a2 l4 l5 l6 v) _
    unfold B_among_3_9
    refine pp_if (fun c => ?_) (fun c => ?_)
    · have c1 := Int32.le_iff_toInt_le.mp c
      have hj2 : j = 29 := by
        rcases Nat.lt_or_eq_of_le hj with z | z
        · have := (off_3 j z).2.2
          have := hi1 z
          omega
        · exact z
      exact pp_some ⟨rfl, Or.inl ⟨rfl, fun j' hj' => hno j' (by omega)⟩⟩
    · have hj2 : j < 29 := by
        rcases Nat.lt_or_eq_of_le hj with z | z
        · exact z
        · refine absurd (Int32.le_iff_toInt_le.mpr ?_) c
          have := hi2 z
          have := off_3_end
          rw [z] at h6
          omega
      obtain ⟨f1, f2, f3⟩ := off_3 j hj2
      have hi := hi1 hj2
      have en : l6.toNatClampNeg = offL kwl j + i := by show l6.toInt.toNat = _; omega
      have e61 : (l6 + 1).toInt = l6.toInt + 1 := by rw [tI_add (by omega) (by omega), e1]
      have e41 : (l4 + 1).toInt = l4.toInt + 1 := by rw [tI_add (by omega) (by omega), e1]
      refine pp_rd ?_
      rw [en]
      rcases Nat.lt_or_eq_of_le hi with z | z
      · rw [if_neg (f1 i z).2]
        unfold B_among_3_112
        exact ih (a1, a2, l4, l5, l6 + 1, v) ⟨rfl, rfl, rfl, j, i + 1, h4, h5, by show (l6 + 1).toInt = _; omega, hj, fun _ => by omega, fun q => absurd q (by omega), hno⟩
      · rw [z, if_pos f2]
        have next : ¬ kwl.getD j [] = blL by_ p n → pp (B_among_3_112 N R a1 a2 (l4 + 1) (l6 + 1) l6 v) (fun r w => w = v ∧ ((r = -1 ∧ ∀ j, j < 29 → ¬ kwl.getD j [] = blL by_ p n) ∨ (∃ j : Nat, j < 29 ∧ r.toInt = (j : Int) ∧ kwl.getD j [] = blL by_ p n))) := by
          intro hne
          unfold B_among_3_112
          refine ih (a1, a2, l4 + 1, l6 + 1, l6 + 1, v) ⟨rfl, rfl, rfl, j + 1, 0, by show (l4 + 1).toInt = _; omega, by show (l6 + 1).toInt = _; unfold offL; omega, by show (l6 + 1).toInt = _; unfold offL; omega, by omega, fun _ => by omega, fun _ => rfl, fun j' hj' => ?_⟩
          rcases Nat.lt_or_eq_of_le (Nat.le_of_lt_succ hj') with z2 | z2
          · exact hno j' z2
          · rw [z2]; exact hne
        have cmp : ∀ (M : Nat) (b : Int32 × Int32 × Int32 × Int32 × Int32 × Int32 × Int32 × RSt), (b.1 = a1 ∧ b.2.1 = a2 ∧ b.2.2.1 = l4 ∧ b.2.2.2.1 = l5 ∧ b.2.2.2.2.1 = l6 ∧ b.2.2.2.2.2.2.2 = v ∧ ∃ m : Nat, b.2.2.2.2.2.2.1.toInt = (m : Int) ∧ m ≤ n ∧ (b.2.2.2.2.2.1 = 0 → ¬ kwl.getD j [] = blL by_ p n) ∧ (¬ b.2.2.2.2.2.1 = 0 → (kwl.getD j []).length = n ∧ ∀ x, x < m → (kwl.getD j []).getD x 0 = by_ (p + x))) → pp (LP_among_3_51 N R M b) (fun r w => w = v ∧ ((r = -1 ∧ ∀ j, j < 29 → ¬ kwl.getD j [] = blL by_ p n) ∨ (∃ j : Nat, j < 29 ∧ r.toInt = (j : Int) ∧ kwl.getD j [] = blL by_ p n))) := by
          refine pp_lp (Z := fun _ (r : Int32) w => w = v ∧ ((r = -1 ∧ ∀ j, j < 29 → ¬ kwl.getD j [] = blL by_ p n) ∨ (∃ j : Nat, j < 29 ∧ r.toInt = (j : Int) ∧ kwl.getD j [] = blL by_ p n))) (fun (b : Int32 × Int32 × Int32 × Int32 × Int32 × Int32 × Int32 × RSt) => b.1 = a1 ∧ b.2.1 = a2 ∧ b.2.2.1 = l4 ∧ b.2.2.2.1 = l5 ∧ b.2.2.2.2.1 = l6 ∧ b.2.2.2.2.2.2.2 = v ∧ ∃ m : Nat, b.2.2.2.2.2.2.1.toInt = (m : Int) ∧ m ≤ n ∧ (b.2.2.2.2.2.1 = 0 → ¬ kwl.getD j [] = blL by_ p n) ∧ (¬ b.2.2.2.2.2.1 = 0 → (kwl.getD j []).length = n ∧ ∀ x, x < m → (kwl.getD j []).getD x 0 = by_ (p + x))) ?_
          rintro R2 ⟨b1, b2, b3, b4, b5, b7, b8, v2⟩ ⟨w1, w2, w3, w4, w5, w6, m, hm, hmn, y0, y1⟩ ih2
          dsimp only at w1 w2 w3 w4 w5 w6 hm y0 y1 ih2 ⊢
          subst w1
          subst w2
          subst w3
          subst w4
          subst w5
          subst w6
          show pp (B_among_3_51 N R R2 b1 b2 b3 b4 b5 b7 b8 v2) _
          unfold B_among_3_51
          have h95 : (¬ b7 = 0 → m = n) → pp (B_among_3_95 N R b1 b2 b3 b5 b7 v2) (fun r w => w = v2 ∧ ((r = -1 ∧ ∀ j, j < 29 → ¬ kwl.getD j [] = blL by_ p n) ∨ (∃ j : Nat, j < 29 ∧ r.toInt = (j : Int) ∧ kwl.getD j [] = blL by_ p n))) := by
            intro hfull
            unfold B_among_3_95
            refine pp_if (fun c7 => next (y0 c7)) (fun c7 => ?_)
            obtain ⟨g1, g2⟩ := y1 c7
            have := hfull c7
            exact pp_some ⟨rfl, Or.inr ⟨j, hj2, h4, blL_eq g1 (fun x hx => g2 x (by omega))⟩⟩
          refine pp_if (fun c3 => ?_) (fun c3 => pp_if (fun c7 => h95 (fun q => absurd c7 q)) (fun c7 => ?_))
          · have := Int32.le_iff_toInt_le.mp c3
            exact h95 (fun _ => by omega)
          · have hmn2 : m < n := by
              have := Int32.not_le.mp c3
              have := Int32.lt_iff_toInt_lt.mp this
              omega
            obtain ⟨g1, g2⟩ := y1 c7
            have e58 : (b4 + b8).toInt = (offL kwl j + m : Nat) := by rw [tI_add (by omega) (by omega)]; omega
            have e28 : (b1 + b8).toInt = (p + m : Nat) := by rw [tI_add (by omega) (by omega)]; omega
            have e81 : (b8 + 1).toInt = (m + 1 : Nat) := by rw [tI_add (by omega) (by omega), e1]; omega
            have en2 : (b4 + b8).toNatClampNeg = offL kwl j + m := by show (b4 + b8).toInt.toNat = _; omega
            refine pp_rd ?_
            rw [en2, (f1 m (by omega)).1]
            refine r_see hY h e28 ?_
            unfold B_among_3_87
            refine pp_if (fun c9 => ?_) (fun c9 => ?_)
            · refine ih2 (b1, b2, b3, b4, b5, 1, b8 + 1, v2) ⟨rfl, rfl, rfl, rfl, rfl, rfl, m + 1, e81, by omega, fun q => absurd q o32, fun _ => ⟨g1, fun x hx => ?_⟩⟩
              rcases Nat.lt_or_eq_of_le (Nat.le_of_lt_succ hx) with z2 | z2
              · exact g2 x z2
              · rw [z2]; exact c9
            · refine ih2 (b1, b2, b3, b4, b5, 0, b8 + 1, v2) ⟨rfl, rfl, rfl, rfl, rfl, rfl, m + 1, e81, by omega, fun _ q => c9 ((blL_get q).2 m hmn2), fun q => absurd rfl q⟩
        have e60 : (l6 - l5).toInt = ((kwl.getD j []).length : Int) := by rw [tI_sub (by omega) (by omega)]; omega
        unfold B_among_3_46
        refine pp_if (fun c2 => ?_) (fun c2 => ?_)
        · refine cmp N (a1, a2, l4, l5, l6, 1, 0, v) ⟨rfl, rfl, rfl, rfl, rfl, rfl, 0, z32, by omega, fun q => absurd q o32, fun _ => ⟨?_, fun x hx => absurd hx (by omega)⟩⟩
          rw [c2] at e60
          omega
        · refine cmp N (a1, a2, l4, l5, l6, 0, 0, v) ⟨rfl, rfl, rfl, rfl, rfl, rfl, 0, z32, by omega, fun _ q => c2 ?_, fun q => absurd rfl q⟩
          have := (blL_get q).1
          exact tI_eq.mpr (by omega)
  refine pp_bn (pp_m (loop N (l2, l3, 0, 0, 0, u) ⟨rfl, rfl, rfl, 0, 0, z32, (show (0 : Int32).toInt = ((offL kwl 0 : Nat) : Int) by decide), (show (0 : Int32).toInt = ((offL kwl 0 : Nat) : Int) + ((0 : Nat) : Int) by decide), by omega, fun _ => by omega, fun q => absurd q (by omega), fun j' hj' => absurd hj' (by omega)⟩) (fun r w hw => ?_))
  rw [hw.1]
  exact kk r hw.2
end Among3
theorem off_4 : ∀ j, j < 47 → (∀ i, i < (mkl.getD j []).length → ch_4 (offL mkl j + i) = (mkl.getD j []).getD i 0 ∧ ¬ ch_4 (offL mkl j + i) = 32) ∧ ch_4 (offL mkl j + (mkl.getD j []).length) = 32 ∧ offL mkl j + (mkl.getD j []).length < 122 := by decide +kernel
theorem off_4_end : offL mkl 47 = 122 := by decide +kernel
section Among4
variable {by_ : Nat → Int32} {len N p n : Nat} {u : RSt} {l2 l3 : Int32} {β : Type} {Q : β → RSt → Prop}
theorem r_among4 {k : Int32 → RSt → Option (β × RSt)} (hY : BY by_ len) (h : BR by_ len u) (hl : l2.toInt = (p : Int)) (hn : l3.toInt = (n : Int)) (hp : p ≤ 6000) (hn2 : n ≤ 6000) (kk : ∀ r : Int32, ((r = -1 ∧ ∀ j, j < 47 → ¬ mkl.getD j [] = blL by_ p n) ∨ (∃ j : Nat, j < 47 ∧ r.toInt = (j : Int) ∧ mkl.getD j [] = blL by_ p n)) → pp (k r u) Q) : pp (bn (F_among_4 N l2 l3 u) k) Q := by
  have e1 : (1 : Int32).toInt = 1 := by decide
  have eC : (122 : Int32).toInt = 122 := by decide
  have loop : ∀ (M : Nat) (a : Int32 × Int32 × Int32 × Int32 × Int32 × RSt), (a.1 = l2 ∧ a.2.1 = l3 ∧ a.2.2.2.2.2 = u ∧ ∃ j i : Nat, a.2.2.1.toInt = (j : Int) ∧ a.2.2.2.1.toInt = (offL mkl j : Int) ∧ a.2.2.2.2.1.toInt = (offL mkl j + i : Int) ∧ j ≤ 47 ∧ (j < 47 → i ≤ (mkl.getD j []).length) ∧ (j = 47 → i = 0) ∧ ∀ j', j' < j → ¬ mkl.getD j' [] = blL by_ p n) → pp (LP_among_4_9 N M a) (fun r w => w = u ∧ ((r = -1 ∧ ∀ j, j < 47 → ¬ mkl.getD j [] = blL by_ p n) ∨ (∃ j : Nat, j < 47 ∧ r.toInt = (j : Int) ∧ mkl.getD j [] = blL by_ p n))) := by
    refine pp_lp (Z := fun _ (r : Int32) w => w = u ∧ ((r = -1 ∧ ∀ j, j < 47 → ¬ mkl.getD j [] = blL by_ p n) ∨ (∃ j : Nat, j < 47 ∧ r.toInt = (j : Int) ∧ mkl.getD j [] = blL by_ p n))) (fun (a : Int32 × Int32 × Int32 × Int32 × Int32 × RSt) => a.1 = l2 ∧ a.2.1 = l3 ∧ a.2.2.2.2.2 = u ∧ ∃ j i : Nat, a.2.2.1.toInt = (j : Int) ∧ a.2.2.2.1.toInt = (offL mkl j : Int) ∧ a.2.2.2.2.1.toInt = (offL mkl j + i : Int) ∧ j ≤ 47 ∧ (j < 47 → i ≤ (mkl.getD j []).length) ∧ (j = 47 → i = 0) ∧ ∀ j', j' < j → ¬ mkl.getD j' [] = blL by_ p n) ?_
    rintro R ⟨a1, a2, l4, l5, l6, v⟩ ⟨q1, q2, q3, j, i, h4, h5, h6, hj, hi1, hi2, hno⟩ ih
    dsimp only at q1 q2 q3 h4 h5 h6 ih ⊢
    subst q1
    subst q2
    subst q3
    show pp (B_among_4_9 N R a1 a2 l4 l5 l6 v) _
    unfold B_among_4_9
    refine pp_if (fun c => ?_) (fun c => ?_)
    · have c1 := Int32.le_iff_toInt_le.mp c
      have hj2 : j = 47 := by
        rcases Nat.lt_or_eq_of_le hj with z | z
        · have := (off_4 j z).2.2
          have := hi1 z
          omega
        · exact z
      exact pp_some ⟨rfl, Or.inl ⟨rfl, fun j' hj' => hno j' (by omega)⟩⟩
    · have hj2 : j < 47 := by
        rcases Nat.lt_or_eq_of_le hj with z | z
        · exact z
        · refine absurd (Int32.le_iff_toInt_le.mpr ?_) c
          have := hi2 z
          have := off_4_end
          rw [z] at h6
          omega
      obtain ⟨f1, f2, f3⟩ := off_4 j hj2
      have hi := hi1 hj2
      have en : l6.toNatClampNeg = offL mkl j + i := by show l6.toInt.toNat = _; omega
      have e61 : (l6 + 1).toInt = l6.toInt + 1 := by rw [tI_add (by omega) (by omega), e1]
      have e41 : (l4 + 1).toInt = l4.toInt + 1 := by rw [tI_add (by omega) (by omega), e1]
      refine pp_rd ?_
      rw [en]
      rcases Nat.lt_or_eq_of_le hi with z | z
      · rw [if_neg (f1 i z).2]
        unfold B_among_4_112
        exact ih (a1, a2, l4, l5, l6 + 1, v) ⟨rfl, rfl, rfl, j, i + 1, h4, h5, by show (l6 + 1).toInt = _; omega, hj, fun _ => by omega, fun q => absurd q (by omega), hno⟩
      · rw [z, if_pos f2]
        have next : ¬ mkl.getD j [] = blL by_ p n → pp (B_among_4_112 N R a1 a2 (l4 + 1) (l6 + 1) l6 v) (fun r w => w = v ∧ ((r = -1 ∧ ∀ j, j < 47 → ¬ mkl.getD j [] = blL by_ p n) ∨ (∃ j : Nat, j < 47 ∧ r.toInt = (j : Int) ∧ mkl.getD j [] = blL by_ p n))) := by
          intro hne
          unfold B_among_4_112
          refine ih (a1, a2, l4 + 1, l6 + 1, l6 + 1, v) ⟨rfl, rfl, rfl, j + 1, 0, by show (l4 + 1).toInt = _; omega, by show (l6 + 1).toInt = _; unfold offL; omega, by show (l6 + 1).toInt = _; unfold offL; omega, by omega, fun _ => by omega, fun _ => rfl, fun j' hj' => ?_⟩
          rcases Nat.lt_or_eq_of_le (Nat.le_of_lt_succ hj') with z2 | z2
          · exact hno j' z2
          · rw [z2]; exact hne
        have cmp : ∀ (M : Nat) (b : Int32 × Int32 × Int32 × Int32 × Int32 × Int32 × Int32 × RSt), (b.1 = a1 ∧ b.2.1 = a2 ∧ b.2.2.1 = l4 ∧ b.2.2.2.1 = l5 ∧ b.2.2.2.2.1 = l6 ∧ b.2.2.2.2.2.2.2 = v ∧ ∃ m : Nat, b.2.2.2.2.2.2.1.toInt = (m : Int) ∧ m ≤ n ∧ (b.2.2.2.2.2.1 = 0 → ¬ mkl.getD j [] = blL by_ p n) ∧ (¬ b.2.2.2.2.2.1 = 0 → (mkl.getD j []).length = n ∧ ∀ x, x < m → (mkl.getD j []).getD x 0 = by_ (p + x))) → pp (LP_among_4_51 N R M b) (fun r w => w = v ∧ ((r = -1 ∧ ∀ j, j < 47 → ¬ mkl.getD j [] = blL by_ p n) ∨ (∃ j : Nat, j < 47 ∧ r.toInt = (j : Int) ∧ mkl.getD j [] = blL by_ p n))) := by
          refine pp_lp (Z := fun _ (r : Int32) w => w = v ∧ ((r = -1 ∧ ∀ j, j < 47 → ¬ mkl.getD j [] = blL by_ p n) ∨ (∃ j : Nat, j < 47 ∧ r.toInt = (j : Int) ∧ mkl.getD j [] = blL by_ p n))) (fun (b : Int32 × Int32 × Int32 × Int32 × Int32 × Int32 × Int32 × RSt) => b.1 = a1 ∧ b.2.1 = a2 ∧ b.2.2.1 = l4 ∧ b.2.2.2.1 = l5 ∧ b.2.2.2.2.1 = l6 ∧ b.2.2.2.2.2.2.2 = v ∧ ∃ m : Nat, b.2.2.2.2.2.2.1.toInt = (m : Int) ∧ m ≤ n ∧ (b.2.2.2.2.2.1 = 0 → ¬ mkl.getD j [] = blL by_ p n) ∧ (¬ b.2.2.2.2.2.1 = 0 → (mkl.getD j []).length = n ∧ ∀ x, x < m → (mkl.getD j []).getD x 0 = by_ (p + x))) ?_
          rintro R2 ⟨b1, b2, b3, b4, b5, b7, b8, v2⟩ ⟨w1, w2, w3, w4, w5, w6, m, hm, hmn, y0, y1⟩ ih2
          dsimp only at w1 w2 w3 w4 w5 w6 hm y0 y1 ih2 ⊢
          subst w1
          subst w2
          subst w3
          subst w4
          subst w5
          subst w6
          show pp (B_among_4_51 N R R2 b1 b2 b3 b4 b5 b7 b8 v2) _
          unfold B_among_4_51
          have h95 : (¬ b7 = 0 → m = n) → pp (B_among_4_95 N R b1 b2 b3 b5 b7 v2) (fun r w => w = v2 ∧ ((r = -1 ∧ ∀ j, j < 47 → ¬ mkl.getD j [] = blL by_ p n) ∨ (∃ j : Nat, j < 47 ∧ r.toInt = (j : Int) ∧ mkl.getD j [] = blL by_ p n))) := by
            intro hfull
            unfold B_among_4_95
            refine pp_if (fun c7 => next (y0 c7)) (fun c7 => ?_)
            obtain ⟨g1, g2⟩ := y1 c7
            have := hfull c7
            exact pp_some ⟨rfl, Or.inr ⟨j, hj2, h4, blL_eq g1 (fun x hx => g2 x (by omega))⟩⟩
          refine pp_if (fun c3 => ?_) (fun c3 => pp_if (fun c7 => h95 (fun q => absurd c7 q)) (fun c7 => ?_))
          · have := Int32.le_iff_toInt_le.mp c3
            exact h95 (fun _ => by omega)
          · have hmn2 : m < n := by
              have := Int32.not_le.mp c3
              have := Int32.lt_iff_toInt_lt.mp this
              omega
            obtain ⟨g1, g2⟩ := y1 c7
            have e58 : (b4 + b8).toInt = (offL mkl j + m : Nat) := by rw [tI_add (by omega) (by omega)]; omega
            have e28 : (b1 + b8).toInt = (p + m : Nat) := by rw [tI_add (by omega) (by omega)]; omega
            have e81 : (b8 + 1).toInt = (m + 1 : Nat) := by rw [tI_add (by omega) (by omega), e1]; omega
            have en2 : (b4 + b8).toNatClampNeg = offL mkl j + m := by show (b4 + b8).toInt.toNat = _; omega
            refine pp_rd ?_
            rw [en2, (f1 m (by omega)).1]
            refine r_see hY h e28 ?_
            unfold B_among_4_87
            refine pp_if (fun c9 => ?_) (fun c9 => ?_)
            · refine ih2 (b1, b2, b3, b4, b5, 1, b8 + 1, v2) ⟨rfl, rfl, rfl, rfl, rfl, rfl, m + 1, e81, by omega, fun q => absurd q o32, fun _ => ⟨g1, fun x hx => ?_⟩⟩
              rcases Nat.lt_or_eq_of_le (Nat.le_of_lt_succ hx) with z2 | z2
              · exact g2 x z2
              · rw [z2]; exact c9
            · refine ih2 (b1, b2, b3, b4, b5, 0, b8 + 1, v2) ⟨rfl, rfl, rfl, rfl, rfl, rfl, m + 1, e81, by omega, fun _ q => c9 ((blL_get q).2 m hmn2), fun q => absurd rfl q⟩
        have e60 : (l6 - l5).toInt = ((mkl.getD j []).length : Int) := by rw [tI_sub (by omega) (by omega)]; omega
        unfold B_among_4_46
        refine pp_if (fun c2 => ?_) (fun c2 => ?_)
        · refine cmp N (a1, a2, l4, l5, l6, 1, 0, v) ⟨rfl, rfl, rfl, rfl, rfl, rfl, 0, z32, by omega, fun q => absurd q o32, fun _ => ⟨?_, fun x hx => absurd hx (by omega)⟩⟩
          rw [c2] at e60
          omega
        · refine cmp N (a1, a2, l4, l5, l6, 0, 0, v) ⟨rfl, rfl, rfl, rfl, rfl, rfl, 0, z32, by omega, fun _ q => c2 ?_, fun q => absurd rfl q⟩
          have := (blL_get q).1
          exact tI_eq.mpr (by omega)
  refine pp_bn (pp_m (loop N (l2, l3, 0, 0, 0, u) ⟨rfl, rfl, rfl, 0, 0, z32, (show (0 : Int32).toInt = ((offL mkl 0 : Nat) : Int) by decide), (show (0 : Int32).toInt = ((offL mkl 0 : Nat) : Int) + ((0 : Nat) : Int) by decide), by omega, fun _ => by omega, fun q => absurd q (by omega), fun j' hj' => absurd hj' (by omega)⟩) (fun r w hw => ?_))
  rw [hw.1]
  exact kk r hw.2
end Among4
