/-! The eight names; the invariant between calls. -/
/-- how many blanks stand before k -/
def bz (k : Nat) : Nat := ((List.range k).filter (fun i => decide (ch_2 i = 32))).length
def sN (u : RSt) : Nat := (u.1 55).toNatClampNeg
/-- the code of side s, with the entries of its tasks -/
def SCD (u : RSt) (s : Nat) : Prop := (0 ≤ (u.2.2.1 54 s).toInt ∧ (u.2.2.1 54 s).toInt ≤ 7900) ∧ ∃ H : Nat → Sh, (∀ pc, 8000 * s ≤ pc → pc < 8000 * s + (u.2.2.1 54 s).toInt.toNat → LC u H (8000 * s) (8000 * s + (u.2.2.1 54 s).toInt.toNat - 1) pc) ∧ (∀ k : Nat, (k : Int) < (u.2.2.1 48 s).toInt → (∃ p : Nat, (u.2.2.1 45 (8 * s + k)).toInt = p ∧ 8000 * s ≤ p ∧ p < 8000 * s + (u.2.2.1 54 s).toInt.toNat ∧ (H p).1 = 0 ∧ (H p).2.2 = []) ∧ 1 ≤ (u.2.2.1 43 (8 * s + k)).toInt)
/-- instances of side s are of its blocks -/
def INS (u : RSt) (s : Nat) : Prop := ∀ i : Nat, (i : Int) < (u.2.2.1 42 s).toInt → ∃ b : Nat, b < 8 ∧ (u.2.2.1 38 (24 * s + i)).toInt = 24 * s + b
/-- what is watched, what was traced, the dog -/
def WQ (u : RSt) : Prop := (0 ≤ (u.1 98).toInt ∧ (u.1 98).toInt ≤ 16) ∧ (∀ j, (0 ≤ (u.2.2.1 95 j).toInt ∧ (u.2.2.1 95 j).toInt ≤ 159) ∧ (0 ≤ (u.2.2.1 96 j).toInt ∧ (u.2.2.1 96 j).toInt ≤ 199)) ∧ (0 ≤ (u.1 103).toInt ∧ (u.1 103).toInt ≤ 100) ∧ (1 ≤ (u.1 105).toInt ∧ (u.1 105).toInt ≤ 5000)
/-- between two calls of the reference -/
def UR (u : RSt) : Prop := TB0 u ∧ SRT u ∧ (0 ≤ (u.1 55).toInt ∧ (u.1 55).toInt ≤ 1) ∧ SCD u (sN u) ∧ INS u (sN u) ∧ TPq u ∧ WQ u
section REight
variable {u v w : RSt} {a b c : List Nat} {N k j s : Nat} {x l1 l2 l3 : Int32} {y : Int64}
theorem bz_0 : bz 0 = 0 := rfl
theorem bz_s (k : Nat) : bz (k + 1) = bz k + (if ch_2 k = 32 then 1 else 0) := by
  unfold bz
  rw [List.range_succ, List.filter_append, List.length_append]
  by_cases h : ch_2 k = 32
  · simp [h]
  · simp [h]
theorem bz_34 : bz 34 = 8 := by decide
theorem bz_m {k : Nat} (h : k ≤ 34) : bz k ≤ 8 := by
  have : ∀ n, bz k ≤ bz (k + n) := by
    intro n
    induction n with
    | zero => exact Nat.le_refl _
    | succ n ih =>
      have := bz_s (k + n)
      rw [show k + (n + 1) = k + n + 1 by omega, this]
      omega
  have q := this (34 - k)
  rw [show k + (34 - k) = 34 by omega, bz_34] at q
  exact q
theorem x_eight (hN : 5000000000 ≤ N) : wp (F_eight N u) (fun _ w => FX [61] [59, 60] [57, 58] u w ∧ w.1 61 = 8 ∧ ∀ g : Nat, g < 8 → w.2.2.1 59 g = 5 ∧ (w.2.2.1 60 g).toInt = g) := by
  have e1 : (1 : Int32).toInt = 1 := by decide
  have e8 : (8 : Int32).toInt = 8 := by decide
  have e34 : (34 : Int32).toInt = 34 := by decide
  unfold F_eight B_eight_0
  refine wp_pu.mpr ?_
  unfold LP_eight_9
  refine wp_lp (fun (d : Nat) (x : Int64 × Int32 × RSt) => 0 ≤ x.2.1.toInt ∧ x.2.1.toInt ≤ 34 ∧ FX [61] [59, 60] [57, 58] u x.2.2 ∧ (x.2.2.1 61).toInt = bz x.2.1.toInt.toNat ∧ (∀ g : Nat, g < bz x.2.1.toInt.toNat → x.2.2.2.2.1 59 g = 5 ∧ (x.2.2.2.2.1 60 g).toInt = g) ∧ d = (34 - x.2.1.toInt).toNat) ?_ _ 34 _ (by omega) ⟨by show 0 ≤ (0 : Int32).toInt; decide, by show (0 : Int32).toInt ≤ 34; decide, FX.rf.si (by decide), by show (0 : Int32).toInt = (0 : Nat); decide, fun g hg => absurd (show g < 0 from hg) (Nat.not_lt_zero g), rfl⟩
  rintro d R ⟨m1, m3, z⟩ ⟨q1, q2, q3, q4, q5, q6⟩ ih
  dsimp only at q1 q2 q3 q4 q5 q6 ih ⊢
  unfold B_eight_9
  refine wp_if.mpr ⟨fun cc => ?_, fun cc => ?_⟩
  · have c1 := Int32.le_iff_toInt_le.mp cc
    rw [e34] at c1
    have en : m3.toInt.toNat = 34 := by omega
    rw [en, bz_34] at q4 q5
    exact wp_some.mpr ⟨q3, Int32.toInt_inj.mp (by rw [q4, e8]; rfl), q5⟩
  · have c1 := Int32.lt_iff_toInt_lt.mp (Int32.not_le.mp cc)
    rw [e34] at c1
    have el : (m3 + 1).toInt = m3.toInt + 1 := by rw [tI_add (by rw [e1]; omega) (by rw [e1]; omega), e1]
    have en : (m3 + 1).toInt.toNat = m3.toInt.toNat + 1 := by omega
    have hb := bz_s m3.toInt.toNat
    have hm := bz_m (k := m3.toInt.toNat) (by omega)
    have vm : vp_in m3 34 := vin_iff.mpr ⟨q1, by omega⟩
    have mn : m3.toNatClampNeg = m3.toInt.toNat := rfl
    refine wp_rd.mpr ⟨vm, wp_if.mpr ⟨fun g => ?_, fun g => wp_rd.mpr ⟨vm, ?_⟩⟩⟩
    · rw [mn] at g
      rw [if_pos g] at hb
      have v61 : vp_in (z.1 61) 180 := vin_iff.mpr ⟨by omega, by omega⟩
      refine wp_wr.mpr ⟨v61, wp_wr.mpr ⟨v61, wp_wr.mpr ⟨v61, wp_wr.mpr ⟨v61, wp_pu.mpr ?_⟩⟩⟩⟩
      have e61 : (z.1 61 + 1).toInt = (z.1 61).toInt + 1 := by rw [tI_add (by rw [e1]; omega) (by rw [e1]; omega), e1]
      have n61 : (z.1 61).toNatClampNeg = bz m3.toInt.toNat := by show (z.1 61).toInt.toNat = _; omega
      unfold B_eight_101
      refine ih ((34 - (m3 + 1).toInt).toNat) (0, m3 + 1, sI (sA (sA (sB (sB z 57 (z.1 61).toNatClampNeg m1) 58 (z.1 61).toNatClampNeg 0) 59 (z.1 61).toNatClampNeg 5) 60 (z.1 61).toNatClampNeg (z.1 61)) 61 (z.1 61 + 1)) (by omega) ⟨by show 0 ≤ (m3 + 1).toInt; omega, by show (m3 + 1).toInt ≤ 34; omega, ((((q3.sb (by decide)).sb (by decide)).sa (by decide)).sa (by decide)).si (by decide), ?_, fun g hg => ?_, rfl⟩
      · show (z.1 61 + 1).toInt = (bz (m3 + 1).toInt.toNat : Nat)
        rw [en, hb]
        omega
      · have hg : g < bz (m3 + 1).toInt.toNat := hg
        rw [en, hb] at hg
        show upd (z.2.2.1 59) (z.1 61).toNatClampNeg 5 g = 5 ∧ (upd (z.2.2.1 60) (z.1 61).toNatClampNeg (z.1 61) g).toInt = g
        unfold upd
        by_cases c : g = (z.1 61).toNatClampNeg
        · rw [if_pos c, if_pos c]
          exact ⟨rfl, by omega⟩
        · rw [if_neg c, if_neg c]
          exact q5 g (by omega)
    · rw [mn] at g
      rw [if_neg g] at hb
      unfold B_eight_101
      refine ih ((34 - (m3 + 1).toInt).toNat) _ (by omega) ⟨by show 0 ≤ (m3 + 1).toInt; omega, by show (m3 + 1).toInt ≤ 34; omega, q3, ?_, ?_, rfl⟩
      · show (z.1 61).toInt = (bz (m3 + 1).toInt.toNat : Nat)
        rw [en, hb]
        omega
      · show ∀ g : Nat, g < bz (m3 + 1).toInt.toNat → z.2.2.1 59 g = 5 ∧ (z.2.2.1 60 g).toInt = g
        rw [en, hb]
        exact q5
/-- the code of side s stays where its rows stay -/
def SZq (u w : RSt) (s : Nat) : Prop := ∀ k, k ∈ [30, 32, 37, 38, 42, 43, 45, 48, 49, 50, 51, 54] → ∀ j, j / zn k = s → w.2.2.1 k j = u.2.2.1 k j
theorem SCD.fr (h : SCD u s) (hi : INS u s) (hc : CNT u) (hz : SZq u w s) : SCD w s ∧ INS w s := by
  obtain ⟨⟨h1, h2⟩, H, h3, h4⟩ := h
  have c37 := (hc s).2.2.2.1
  have c42 := (hc s).2.2.2.2.1
  have c48 := (hc s).2.2.2.2.2
  have z1 : ∀ k, k ∈ [37, 42, 48, 54] → w.2.2.1 k s = u.2.2.1 k s := by
    intro k hk
    refine hz k (by simp only [List.mem_cons, List.not_mem_nil, or_false] at hk ⊢; omega) s ?_
    simp only [List.mem_cons, List.not_mem_nil, or_false] at hk
    rcases hk with rfl | rfl | rfl | rfl <;> exact Nat.div_one s
  have z24 : ∀ k, k ∈ [30, 32, 38] → ∀ j, j / 24 = s → w.2.2.1 k j = u.2.2.1 k j := by
    intro k hk j hj
    refine hz k (by simp only [List.mem_cons, List.not_mem_nil, or_false] at hk ⊢; omega) j ?_
    simp only [List.mem_cons, List.not_mem_nil, or_false] at hk
    rcases hk with rfl | rfl | rfl <;> exact hj
  have z8 : ∀ k, k ∈ [43, 45] → ∀ j, j / 8 = s → w.2.2.1 k j = u.2.2.1 k j := by
    intro k hk j hj
    refine hz k (by simp only [List.mem_cons, List.not_mem_nil, or_false] at hk ⊢; omega) j ?_
    simp only [List.mem_cons, List.not_mem_nil, or_false] at hk
    rcases hk with rfl | rfl <;> exact hj
  have zc : ∀ p, p / 8000 = s → SAC u w p := fun p hp => ⟨hz 49 (by decide) p hp, hz 50 (by decide) p hp, hz 51 (by decide) p hp⟩
  have e8 : 8000 * s / 8000 = s := by omega
  refine ⟨⟨by rw [z1 54 (by decide)]; exact ⟨h1, h2⟩, H, ?_, ?_⟩, ?_⟩
  · rw [z1 54 (by decide)]
    intro pc q1 q2
    refine (h3 pc q1 q2).fr3 (fun p g1 g2 => (zc p (by omega)).1) (zc pc (by omega)).1 (zc pc (by omega)).2.1 (zc pc (by omega)).2.2 ⟨fun j g1 g2 => ?_, fun i g1 g2 => ?_, ?_, ?_⟩ (fun _ _ => rfl) (by omega) (Nat.le_refl _)
    · rw [e8] at g1 g2
      exact ⟨z24 30 (by decide) j (by omega), z24 32 (by decide) j (by omega)⟩
    · rw [e8] at g1 g2
      obtain ⟨b, b1, b2⟩ := hi (i - 24 * s) (by omega)
      rw [show 24 * s + (i - 24 * s) = i by omega] at b2
      have : (u.2.2.1 38 i).toNatClampNeg = (u.2.2.1 38 i).toInt.toNat := rfl
      exact ⟨z24 38 (by decide) i (by omega), z24 32 (by decide) _ (by omega)⟩
    · rw [e8, z1 37 (by decide)]; exact Int.le_refl _
    · rw [e8, z1 42 (by decide)]; exact Int.le_refl _
  · rw [z1 48 (by decide), z1 54 (by decide)]
    intro k hk
    rw [z8 45 (by decide) (8 * s + k) (by omega), z8 43 (by decide) (8 * s + k) (by omega)]
    exact h4 k hk
  · intro i hi2
    rw [z1 42 (by decide)] at hi2
    rw [z24 38 (by decide) (24 * s + i) (by omega)]
    exact hi i hi2
end REight
