/-! Tokens: the whole cutting of both. -/
section GapR
variable {by_ : Nat → Int32} {len N i q : Nat} {u : RSt}
theorem gP_bl_inv (h : gP by_ len false i q) (hi : i < len) (h2 : isBl (by_ i)) : gP by_ len false (i + 1) q := by
  obtain ⟨m, h⟩ := h
  cases m with
  | zero =>
    rcases h with ⟨h1, -⟩ | ⟨-, -, -, h4, -⟩
    · omega
    · exact absurd h2 h4
  | succ m =>
    obtain ⟨-, ⟨h1, -⟩ | ⟨-, ⟨h1, -⟩ | ⟨-, -, h3⟩⟩⟩ := h
    · cases h1
    · rcases h2 with q | q | q | q <;> (rw [q] at h1; exact absurd h1.1 (by decide))
    · exact ⟨m, h3⟩
theorem blank_iff (c : Int32) : ¬ r_blank c = 0 ↔ isBl c := by
  unfold r_blank isBl
  by_cases c1 : c = 9
  · rw [if_pos c1]; exact ⟨fun _ => Or.inl c1, fun _ => by decide⟩
  rw [if_neg c1]
  by_cases c2 : c = 10
  · rw [if_pos c2]; exact ⟨fun _ => Or.inr (Or.inl c2), fun _ => by decide⟩
  rw [if_neg c2]
  by_cases c3 : c = 13
  · rw [if_pos c3]; exact ⟨fun _ => Or.inr (Or.inr (Or.inl c3)), fun _ => by decide⟩
  rw [if_neg c3]
  by_cases c4 : c = 32
  · rw [if_pos c4]; exact ⟨fun _ => Or.inr (Or.inr (Or.inr c4)), fun _ => by decide⟩
  rw [if_neg c4]
  exact ⟨fun z => absurd rfl z, fun z => (z.elim c1 (fun z => z.elim c2 (fun z => z.elim c3 c4))).elim⟩
theorem r_gap {s : Nat} {l1 l2 : Int32} {R9 : Int32 × Int32 × RSt → Option (Int32 × RSt)} {Z : Int32 → RSt → Prop} (hY : BY by_ len) (h : BR by_ len u) (hl : l1.toInt = (s : Int)) (hs : s ≤ len) (kk : ∀ (R : Int32 × Int32 × Int32 × RSt → Option (Int32 × RSt)) (q : Nat) (lq : Int32), gP by_ len false s q → lq.toInt = (q : Int) → pp (B_cutAll_15 N R9 R lq l2 0 u) Z) : ∀ M, pp (LP_cutAll_15 N R9 M (l1, l2, 1, u)) Z := by
  have hb := hY.1
  have e1 : (1 : Int32).toInt = 1 := by decide
  have loop : ∀ (M : Nat) (a : Int32 × Int32 × Int32 × RSt), (a.2.1 = l2 ∧ a.2.2.2 = u ∧ ((a.2.2.1 = 1 ∧ ∃ i : Nat, a.1.toInt = (i : Int) ∧ i ≤ len ∧ ∀ q, gP by_ len false i q → gP by_ len false s q) ∨ (a.2.2.1 = 0 ∧ ∃ q : Nat, a.1.toInt = (q : Int) ∧ gP by_ len false s q))) → pp (LP_cutAll_15 N R9 M a) Z := by
    refine pp_lp (Z := fun _ => Z) (fun (a : Int32 × Int32 × Int32 × RSt) => a.2.1 = l2 ∧ a.2.2.2 = u ∧ ((a.2.2.1 = 1 ∧ ∃ i : Nat, a.1.toInt = (i : Int) ∧ i ≤ len ∧ ∀ q, gP by_ len false i q → gP by_ len false s q) ∨ (a.2.2.1 = 0 ∧ ∃ q : Nat, a.1.toInt = (q : Int) ∧ gP by_ len false s q))) ?_
    rintro R ⟨a1, a2, a3, v⟩ ⟨q1, q2, q3⟩ ih
    dsimp only at q1 q2 q3 ih ⊢
    rw [q1, q2]
    show pp (B_cutAll_15 N R9 R a1 l2 a3 u) _
    rcases q3 with ⟨q3, i, hi, hil, hg⟩ | ⟨q3, q, hq, hg⟩
    · rw [q3]
      unfold B_cutAll_15
      rw [if_neg (by decide)]
      have en : ∀ j : Nat, j ≤ len → ∀ x : Int32, x.toInt = (j : Int) → (x + 1).toInt = ((j + 1 : Nat) : Int) := by
        intro j hj x hx
        rw [tI_add (by omega) (by omega), e1, hx]; rfl
      refine r_see hY h hi (pp_if (fun c => ?_) (fun c => ?_))
      · have nb : ¬ isBl (by_ i) := fun z => (blank_iff _).mpr z c
        have stop : ¬ (by_ i = 47 ∧ by_ (i + 1) = 47) → pp (B_cutAll_82 N R9 R a1 l2 u) Z := by
          intro nn
          unfold B_cutAll_82
          refine ih (a1, l2, 0, u) ⟨rfl, rfl, Or.inr ⟨rfl, i, hi, hg i ?_⟩⟩
          rcases Nat.lt_or_ge i len with z | z
          · exact gP_stop z nn nb
          · have : i = len := by omega
            rw [this]
            exact gP_end (Nat.le_refl _)
        refine r_see hY h hi (pp_if (fun c2 => r_see hY h (en i hil a1 hi) (pp_if (fun c3 => ?_) (fun c3 => stop (fun z => c3 z.2)))) (fun c2 => stop (fun z => c2 z.1)))
        have c1 : i < len := by
          rcases Nat.lt_or_ge i len with z | z
          · exact z
          · rw [hY.2.1 i z] at c2; exact absurd c2 (by decide)
        have inner : ∀ (M : Nat) (b : Int32 × Int32 × Int32 × RSt), (b.2.1 = l2 ∧ b.2.2.1 = 1 ∧ b.2.2.2 = u ∧ ∃ k : Nat, b.1.toInt = (k : Int) ∧ k ≤ len ∧ (k = i ∨ ∀ q, gP by_ len true k q → gP by_ len false s q)) → pp (LP_cutAll_58 N R9 R M b) Z := by
          refine pp_lp (Z := fun _ => Z) (fun (b : Int32 × Int32 × Int32 × RSt) => b.2.1 = l2 ∧ b.2.2.1 = 1 ∧ b.2.2.2 = u ∧ ∃ k : Nat, b.1.toInt = (k : Int) ∧ k ≤ len ∧ (k = i ∨ ∀ q, gP by_ len true k q → gP by_ len false s q)) ?_
          rintro R2 ⟨b1, b2, b3, v2⟩ ⟨w1, w2, w3, k, hk, hkl, hg2⟩ ih2
          dsimp only at w1 w2 w3 hk ih2 ⊢
          rw [w1, w2, w3]
          show pp (B_cutAll_58 N R9 R R2 b1 l2 1 u) _
          unfold B_cutAll_58
          have h1 := h.1
          refine pp_if (fun d1 => ?_) (fun d1 => ?_)
          · have := Int32.le_iff_toInt_le.mp d1
            have ek : k = len := by omega
            refine ih (b1, l2, 1, u) ⟨rfl, rfl, Or.inl ⟨rfl, k, hk, hkl, fun q hq => ?_⟩⟩
            rcases hg2 with z | z
            · omega
            · refine z q ?_
              rw [ek] at hq ⊢
              rw [gP_dt hq (gP_end (Nat.le_refl _))]
              exact gP_end (Nat.le_refl _)
          · have c5 : k < len := by
              have := Int32.lt_iff_toInt_lt.mp (Int32.not_le.mp d1)
              omega
            refine r_see hY h hk (pp_if (fun d2 => ?_) (fun d2 => ?_))
            · refine ih (b1, l2, 1, u) ⟨rfl, rfl, Or.inl ⟨rfl, k, hk, hkl, fun q hq => ?_⟩⟩
              rcases hg2 with z | z
              · rw [z, c2] at d2; exact absurd d2 (by decide)
              · exact z q (gP_off c5 d2 (gP_bl_inv hq c5 (Or.inr (Or.inl d2))))
            · refine ih2 (b1 + 1, l2, 1, u) ⟨rfl, rfl, rfl, k + 1, en k hkl b1 hk, by omega, Or.inr (fun q hq => ?_)⟩
              rcases hg2 with z | z
              · rw [z] at hq
                exact hg q (gP_nt c1 ⟨c2, c3⟩ hq)
              · exact z q (gP_on c5 d2 hq)
        exact inner N (a1, l2, 1, u) ⟨rfl, rfl, rfl, i, hi, hil, Or.inl rfl⟩
      · have hbl := (blank_iff _).mp c
        have c1 : i < len := by
          rcases Nat.lt_or_ge i len with z | z
          · exact z
          · rw [hY.2.1 i z] at hbl
            rcases hbl with q | q | q | q <;> exact absurd q (by decide)
        refine ih (a1 + 1, l2, 1, u) ⟨rfl, rfl, Or.inl ⟨rfl, i + 1, en i hil a1 hi, by omega, fun q hq => hg q (gP_bl c1 (fun z => ?_) hbl hq)⟩⟩
        rcases hbl with q | q | q | q <;> (rw [q] at z; exact absurd z.1 (by decide))
    · rw [q3]
      exact kk R q a1 hg hq
  intro M
  exact loop M (l1, l2, 1, u) ⟨rfl, rfl, Or.inl ⟨rfl, s, hl, hs, fun q hq => hq⟩⟩
end GapR
/-- the class's picture but for the tokens -/
def CFr (v w : CSt) : Prop := (∀ k, k ≠ 4 → cI w k = cI v k) ∧ w.2.1 = v.2.1 ∧ (∀ k, k ≠ 203 → k ≠ 204 → k ≠ 206 → cA w k = cA v k) ∧ (∀ k, k ≠ 205 → cB w k = cB v k) ∧ w.2.2.2.2 = v.2.2.2.2
/-- the reference's picture but for the tokens -/
def RFs (u w : RSt) : Prop := (∀ k, k ≠ 8 → w.1 k = u.1 k) ∧ w.2.1 = u.2.1 ∧ (∀ c, c ≠ 2 → c ≠ 3 → c ≠ 5 → w.2.2.1 c = u.2.2.1 c) ∧ (∀ c, c ≠ 4 → c ≠ 6 → c ≠ 7 → w.2.2.2 c = u.2.2.2 c)
/-- the first m tokens are alike -/
def TKs (v : CSt) (u : RSt) (m : Nat) : Prop := ∀ i, i < m → cA v 204 i = u.2.2.1 3 i ∧ TKc (cA v 203 i) (cB v 205 i) (cA v 206 i) (u.2.2.1 2 i) (u.2.2.2 4 i) (u.2.2.1 5 i) (u.2.2.2 6 i) (u.2.2.2 7 i)
/-- all is cut: n tokens and the end -/
def CUT (v : CSt) (u : RSt) : Prop := ∃ n, TB v n ∧ RT (tyF v) (u.2.2.1 2) n ∧ TKs v u n ∧ cA v 204 n = u.2.2.1 3 n
