/-! for: which place counts. -/
section RCounts2
variable {u v w : RSt} {T N g : Nat} {o e : Int} {ro : Nat → Int32 → Int32 → RSt → Option (Int32 × RSt)}
theorem e_counts {l1 : Int32} (hN : 5000000000 ≤ N) (hp : PRE u T) (hsl : SLK 5 u) (ho : u.1 67 = 0 → opn u = o ∧ 0 ≤ o ∧ o ≤ 24) (h0 : 0 ≤ o) (h25 : o ≤ 25) (hd : ENVq u (o - 1)) (hB : HBr ro T o g) (hg : 525 ≤ g) : wp (F_counts N ro l1 u) (fun _ w => STq u w T o 4 (g + 1)) := by
  obtain ⟨hV, hSl, hBk, hIn, -, -, -, -, t0, t1⟩ := id hp.2.1
  have e160 : (160 : Int32).toInt = 160 := by decide
  have em : (160 * u.1 56).toInt = 160 * (u.1 56).toInt := by rw [tI_mul (by rw [e160]; omega) (by rw [e160]; omega), e160]
  have c0 : CSq u u T o 0 525 [] [] false := CSq.rf hp ho
  unfold F_counts B_counts_0
  rw [wp_bn]
  refine wp_mono (x_is hp.1) (fun r u' hr => ?_)
  obtain ⟨rfl, hr⟩ := hr
  refine wp_if.mpr ⟨fun q => ?_, fun q => ?_⟩
  · rw [wp_bn]
    refine wp_mono (x_stuck hp.1) (fun _ w hw => wp_some.mpr ?_)
    have : CSq u' w T o 4 (g + 1) [] [] false := CSq.flt hw hp
    exact STq.of this
  have hty : ¬ isT (tyR u') := by
    rcases hr with ⟨-, -, z⟩ | ⟨z, -⟩
    · rw [z]; unfold isT; decide
    · exact absurd z q
  refine wp_rd.mpr ⟨hp.1.vin, ?_⟩
  generalize u'.2.2.1 3 (u'.1 65).toNatClampNeg = l2
  have fin : ∀ (l7 l8 s0 : Int32) (t : Int × Int) (y : RSt), CSq u' y T o 0 525 [] [] false → LF u' y → y.1 65 = u'.1 65 → (act y → BT l8 s0 t ∧ RDb t l7 ∧ WRb t l7) → wp (B_counts_279 N ro l1 l7 l8 s0 y) (fun _ w => STq u' w T o 4 (g + 1)) := fun l7 l8 s0 t y cy ly ky hb => e_279 hN hp hsl h0 h25 hd hB hg cy (by rw [ly.k65 ky]; exact hty) hb
  have e185 : ∀ (l3 l5 l6 s1 : Int32) (y : RSt), CSq u' y T o 0 525 [] [] false → LF u' y → y.1 65 = u'.1 65 → (l5 = 0 → ¬ act y) → (¬ l5 = 0 → (l3 = -1 ∧ 0 ≤ l6.toInt ∧ l6.toInt < 320 ∧ (s1 = 0 → u'.2.2.1 13 l6.toNatClampNeg = 0 ∧ ¬ u'.2.2.1 12 l6.toNatClampNeg = 2)) ∨ (¬ l3 = -1 ∧ 0 ≤ l3.toInt ∧ l3.toInt < 320)) → wp (B_counts_185 N ro l1 l2 l3 l5 l6 s1 y) (fun _ w => STq u' w T o 4 (g + 1)) := by
    intro l3 l5 l6 s1 y cy ly ky h50 h51
    unfold B_counts_185
    refine c_wrong hp cy (by decide) (fun _ z cz lz kz zz => ?_)
    have lz2 : LF u' z := ly.tr lz
    have kz2 : z.1 65 = u'.1 65 := kz.trans ky
    have hs1 : act z → s1 = 0 := by
      intro ha
      obtain ⟨-, q2 | q2⟩ := zz ha.2
      · exact q2
      · exact absurd q2 (lz.ef.act ha).1
    unfold B_counts_220
    have dead : ∀ (l7 l8 s0 : Int32), ¬ act z → wp (B_counts_279 N ro l1 l7 l8 s0 z) (fun _ w => STq u' w T o 4 (g + 1)) := fun l7 l8 s0 hna => fin l7 l8 s0 (0, 0) z cz lz2 kz2 (fun ha => absurd ha hna)
    refine wp_if.mpr ⟨fun q5 => ?_, fun q5 => ?_⟩
    · have hna : ¬ act z := fun ha => h50 q5 (lz.ef.act ha)
      unfold B_counts_247
      rw [if_pos q5, if_pos q5, if_pos q5]
      exact wp_if.mpr ⟨fun _ => dead _ _ _ hna, fun _ => wp_if.mpr ⟨fun _ => dead _ _ _ hna, fun _ => dead _ _ _ hna⟩⟩
    · rcases h51 q5 with ⟨a1, a2, a3, a4⟩ | ⟨a1, a2, a3⟩
      · have hv : vp_in l6 320 := vin_iff.mpr ⟨a2, by omega⟩
        rw [if_pos a1, cz.1.2.1 10 (by decide)]
        refine wp_rd.mpr ⟨hv, ?_⟩
        rw [if_pos a1]
        unfold B_counts_247
        rw [if_neg q5, if_pos a1, cz.1.2.1 15 (by decide)]
        refine wp_rd.mpr ⟨hv, fin _ _ _ ((u'.2.2.1 15 l6.toNatClampNeg).toInt, (u'.2.2.1 15 l6.toNatClampNeg).toInt) z cz lz2 kz2 (fun ha => ⟨Or.inl ⟨rfl, rfl⟩, ?_⟩)⟩
        obtain ⟨n13, n12⟩ := a4 (hs1 ha)
        obtain ⟨v1, v2, v3, v4, v5, v6⟩ := hV l6.toNatClampNeg
        have e2 : (2 : Int32).toInt = 2 := by decide
        by_cases h12 : (u'.2.2.1 12 l6.toNatClampNeg).toInt = 0 ∨ (u'.2.2.1 12 l6.toNatClampNeg).toInt = 1
        · obtain ⟨w1, w2⟩ := v5 h12
          exact ⟨⟨v1, v2, Or.inl ⟨w1, by show (u'.2.2.1 15 l6.toNatClampNeg).toInt < 3000; omega⟩⟩, ⟨v1, v2, Or.inl ⟨w1, by show (u'.2.2.1 15 l6.toNatClampNeg).toInt < 3000; omega⟩⟩⟩
        · obtain ⟨-, w | ⟨w1, w2, w3⟩⟩ := v6 h12
          · exact absurd (tI_eq.mpr (by rw [w.1, e2])) n12
          · exact ⟨⟨v1, v2, Or.inr (Or.inl ⟨w2, w3⟩)⟩, ⟨v1, v2, Or.inr ⟨w2, w3⟩⟩⟩
      · have hv : vp_in l3 320 := vin_iff.mpr ⟨a2, by omega⟩
        obtain ⟨v1, v2, v3, v4, v5, v6⟩ := hSl l3.toNatClampNeg
        rw [if_neg a1, cz.1.2.1 20 (by decide)]
        refine wp_rd.mpr ⟨hv, ?_⟩
        rw [if_neg a1]
        unfold B_counts_247
        rw [if_neg q5, if_neg a1, if_neg q5, if_neg a1, cz.1.2.1 23 (by decide)]
        refine wp_if.mpr ⟨fun _ => wp_rd.mpr ⟨hv, fin _ _ _ ((u'.2.2.1 23 l3.toNatClampNeg).toInt, 2000 + (u'.2.2.1 23 l3.toNatClampNeg).toInt) z cz lz2 kz2 (fun ha => ⟨Or.inr (Or.inl ⟨rfl, v3, v6, rfl⟩), ⟨v1, v2, Or.inl ⟨v3, ?_⟩⟩, ⟨v1, v2, Or.inl ⟨v3, ?_⟩⟩⟩)⟩, fun _ => wp_rd.mpr ⟨hv, fin _ _ _ (2100 + (u'.2.2.1 23 l3.toNatClampNeg).toInt, 2900 + (u'.2.2.1 23 l3.toNatClampNeg).toInt) z cz lz2 kz2 (fun ha => ⟨Or.inr (Or.inr ⟨rfl, v3, v6, rfl⟩), ⟨v1, v2, Or.inl ⟨?_, ?_⟩⟩, ⟨v1, v2, Or.inl ⟨?_, ?_⟩⟩⟩)⟩⟩
        · show 2000 + (u'.2.2.1 23 l3.toNatClampNeg).toInt < 3000; omega
        · show 2000 + (u'.2.2.1 23 l3.toNatClampNeg).toInt < 3000; omega
        · show 0 ≤ 2100 + (u'.2.2.1 23 l3.toNatClampNeg).toInt; omega
        · show 2900 + (u'.2.2.1 23 l3.toNatClampNeg).toInt < 3000; omega
        · show 0 ≤ 2100 + (u'.2.2.1 23 l3.toNatClampNeg).toInt; omega
        · show 2900 + (u'.2.2.1 23 l3.toNatClampNeg).toInt < 3000; omega
  have e97 : ∀ (l3 l4 s1 : Int32), (l3 = -1 → s1 = 0 → 0 ≤ l4.toInt ∧ l4.toInt < 160) → (¬ l3 = -1 → 0 ≤ l3.toInt ∧ l3.toInt < 320) → wp (B_counts_97 N ro l1 l2 l3 l4 s1 u') (fun _ w => STq u' w T o 4 (g + 1)) := by
    intro l3 l4 s1 h1 h2
    unfold B_counts_97
    refine c_wrong hp c0 (by decide) (fun _ y cy ly ky zy => ?_)
    have e120 : ¬ act y → wp (B_counts_120 N ro l1 l2 l3 l4 y) (fun _ w => STq u' w T o 4 (g + 1)) := by
      intro hna
      unfold B_counts_120 B_counts_121 B_counts_184
      rw [if_pos rfl]
      exact e185 _ _ _ _ _ cy ly ky (fun _ => hna) (fun z => absurd rfl z)
    refine wp_if.mpr ⟨fun qj => e120 (fun ha => ha.1 qj), fun qj => wp_if.mpr ⟨fun qf => ?_, fun qf => e120 (fun ha => qf ha.2)⟩⟩
    have ha : act y := ⟨qj, qf⟩
    have hs1 : s1 = 0 := by
      obtain ⟨-, q2 | q2⟩ := zy qf
      · exact q2
      · exact absurd q2 (ly.ef.act ha).1
    unfold B_counts_121 B_counts_184 B_counts_180
    rw [if_neg (by decide), cy.1.1 56 (by decide), cy.1.2.1 13 (by decide), cy.1.2.1 12 (by decide), cy.1.2.1 22 (by decide)]
    refine wp_if.mpr ⟨fun q3 => ?_, fun q3 => ?_⟩
    · obtain ⟨g1, g2⟩ := h1 q3 hs1
      have ea : (160 * u'.1 56 + l4).toInt = 160 * (u'.1 56).toInt + l4.toInt := by rw [tI_add (by omega) (by omega), em]
      generalize 160 * u'.1 56 + l4 = l6 at ea ⊢
      have hv : vp_in l6 320 := vin_iff.mpr ⟨by omega, by omega⟩
      have go : ∀ s : Int32, (s = 0 → u'.2.2.1 13 l6.toNatClampNeg = 0 ∧ ¬ u'.2.2.1 12 l6.toNatClampNeg = 2) → wp (B_counts_185 N ro l1 l2 l3 1 l6 s y) (fun _ w => STq u' w T o 4 (g + 1)) := fun s hs => e185 _ _ _ _ _ cy ly ky (fun z => absurd z (by decide)) (fun _ => Or.inl ⟨q3, by omega, by omega, hs⟩)
      exact wp_rd.mpr ⟨hv, wp_if.mpr ⟨fun q4 => wp_rd.mpr ⟨hv, wp_if.mpr ⟨fun q5 => go 1 (fun z => absurd z (by decide)), fun q5 => go 0 (fun _ => ⟨q4, q5⟩)⟩⟩, fun _ => go 1 (fun z => absurd z (by decide))⟩⟩
    · obtain ⟨g1, g2⟩ := h2 q3
      have go : ∀ (l6 s : Int32), wp (B_counts_185 N ro l1 l2 l3 1 l6 s y) (fun _ w => STq u' w T o 4 (g + 1)) := fun l6 s => e185 _ _ _ _ _ cy ly ky (fun z => absurd z (by decide)) (fun _ => Or.inr ⟨q3, g1, g2⟩)
      exact wp_rd.mpr ⟨vin_iff.mpr ⟨g1, by omega⟩, wp_if.mpr ⟨fun _ => go _ _, fun _ => go _ _⟩⟩
  have e78 : ∀ (l3 s0 : Int32), (l3 = -1 → s0 = -1 ∨ (0 ≤ s0.toInt ∧ s0.toInt < 160)) → (¬ l3 = -1 → 0 ≤ l3.toInt ∧ l3.toInt < 320) → wp (B_counts_78 N ro l1 l2 l3 s0 u') (fun _ w => STq u' w T o 4 (g + 1)) := by
    intro l3 s0 h1 h2
    unfold B_counts_78 B_counts_96
    refine wp_if.mpr ⟨fun q3 => wp_if.mpr ⟨fun q4 => e97 _ _ _ (fun _ z => absurd z (by decide)) h2, fun q4 => e97 _ _ _ (fun _ _ => ?_) h2⟩, fun q3 => e97 _ _ _ (fun z => absurd z q3) h2⟩
    rcases h1 q3 with z | z
    · exact absurd z q4
    · exact z
  have e56 : ∀ (s0 : Int32), (¬ s0 = -1 → 0 ≤ s0.toInt ∧ s0.toInt < 320) → wp (B_counts_56 N ro l1 l2 s0 u') (fun _ w => STq u' w T o 4 (g + 1)) := by
    intro s0 h2
    unfold B_counts_56 B_counts_77
    refine wp_if.mpr ⟨fun q3 => wp_if.mpr ⟨fun _ => e78 _ _ (fun _ => Or.inl rfl) h2, fun _ => ?_⟩, fun q3 => e78 _ _ (fun z => absurd z q3) h2⟩
    rw [wp_bn]
    refine wp_mono (x_own hN hp.2.1 hp.1) (fun r2 v2 hr2 => ?_)
    obtain ⟨rfl, hr2⟩ := hr2
    refine e78 _ _ (fun _ => ?_) h2
    rcases hr2 with z | ⟨z0', z1, z2, z3⟩
    · exact Or.inl z
    · exact Or.inr ⟨z1, z2 rfl⟩
  refine wp_if.mpr ⟨fun _ => e56 _ (fun z => absurd rfl z), fun _ => ?_⟩
  refine wp_rd.mpr ⟨hp.1.vin, wp_rd.mpr ⟨hp.1.vin, ?_⟩⟩
  rw [wp_bn]
  refine wp_mono (x_slotOf hN hp.2.1) (fun r2 v2 hr2 => ?_)
  obtain ⟨rfl, hr2⟩ := hr2
  refine e56 _ (fun z => ?_)
  rcases hr2 with y | ⟨y1, y2, -⟩
  · exact absurd y z
  · exact ⟨y1, y2⟩
end RCounts2
