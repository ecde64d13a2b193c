/-! The whole text. -/
section RText
variable {u v w y z : RSt} {T N k j : Nat} {o : Int} {x l1 : Int32}
theorem IVQ.orq (h : IVQ u T o) (ho : ORQ u w T o) : IVQ w T o :=
  ⟨ho.1.1, ho.1.2.1, ho.1.2.2.1, fun ha => ⟨(ho.1.2.2.2 ha).1, (ho.1.2.2.2 ha).2, (h.2.2.2 (ho.2.1.ac ha)).2.2.csm (ho.2.2.1 ha) ho.2.2.2.1⟩⟩
theorem x_text (hN : 5000000000 ≤ N) (hi : IVQ u T 0) : wp (F_text N u) (fun _ w => IVQ w T 0 ∧ FRI u w) := by
  unfold F_text LP_text_0
  refine wp_lp (fun (d : Nat) (x : RSt) => IVQ x T 0 ∧ FRI u x ∧ d = (if x.1 67 = 0 then (T - kP x).toNat + 1 else 0)) ?_ _ (if u.1 67 = 0 then (T - kP u).toNat + 1 else 0) _ (by have := hi.1.1; have := hi.1.2.2.1; split <;> omega) ⟨hi, FRI.rf, rfl⟩
  rintro d R x ⟨hx, hf, hd⟩ ih
  unfold B_text_0
  refine wp_if.mpr ⟨fun c => ?_, fun _ => wp_some.mpr ⟨hx, hf⟩⟩
  rw [wp_bn]
  refine wp_mono (x_is hx.1) (fun r x' hx' => ?_)
  obtain ⟨rfl, hr⟩ := hx'
  refine wp_if.mpr ⟨fun _ => ?_, fun _ => wp_some.mpr ⟨hx, hf⟩⟩
  rw [if_pos c] at hd
  have go : ∀ {p : Option (Int32 × RSt)}, wp p (fun _ w => IVQ w T 0 ∧ FRI x' w ∧ (w.1 67 = 0 → kP x' < kP w)) → wp (bn p fun _ w => R w) (fun _ w => IVQ w T 0 ∧ FRI u w) := by
    intro p hp
    rw [wp_bn]
    refine wp_mono hp (fun _ w hw => ?_)
    obtain ⟨w1, w2, w3⟩ := hw
    refine ih (if w.1 67 = 0 then (T - kP w).toNat + 1 else 0) w ?_ ⟨w1, hf.tr w2, rfl⟩
    have := w1.1.2.2.2
    have := hx.1.2.2.2
    by_cases q : w.1 67 = 0
    · rw [if_pos q]
      have := w3 q
      omega
    · rw [if_neg q]
      omega
  have ty : x'.2.2.1 2 (x'.1 65).toNatClampNeg = tyR x' := rfl
  refine wp_rd.mpr ⟨hx.1.vin, ?_⟩
  rw [ty]
  have nt : ∀ {t : Int32}, tyR x' = t → ¬ isT t → ¬ isT (tyR x') := fun a b => by rw [a]; exact b
  have oq : ∀ {w : RSt}, ORQ x' w T 0 → IVQ w T 0 ∧ FRI x' w := fun h => ⟨hx.orq h, h.2.1⟩
  refine wp_if.mpr ⟨fun q => go (wp_mono (x_variables hN hx.p (by decide) (by decide) (nt q (by unfold isT; decide)) (Or.inl rfl) (fun z => absurd rfl z)) (fun _ w hw => ⟨(oq hw.1).1, (oq hw.1).2, hw.2.2⟩)), fun _ => ?_⟩
  refine wp_if.mpr ⟨fun q => go (wp_mono (x_variables hN hx.p (by decide) (by decide) (nt q (by unfold isT; decide)) (Or.inr rfl) (fun z => absurd rfl z)) (fun _ w hw => ⟨(oq hw.1).1, (oq hw.1).2, hw.2.2⟩)), fun _ => ?_⟩
  refine wp_if.mpr ⟨fun q => go (wp_mono (x_image hN hx.p (by decide) (by decide) (nt q (by unfold isT; decide)) (Or.inl rfl)) (fun _ w hw => ⟨(oq hw.1).1, (oq hw.1).2, hw.2⟩)), fun _ => ?_⟩
  refine wp_if.mpr ⟨fun q => go (wp_mono (x_image hN hx.p (by decide) (by decide) (nt q (by unfold isT; decide)) (Or.inr rfl)) (fun _ w hw => ⟨(oq hw.1).1, (oq hw.1).2, hw.2⟩)), fun _ => ?_⟩
  refine wp_if.mpr ⟨fun q => go (x_part hN hx (nt q (by unfold isT; decide))), fun _ => ?_⟩
  refine wp_if.mpr ⟨fun q => go (x_use hN hx (nt q (by unfold isT; decide))), fun _ => ?_⟩
  refine wp_if.mpr ⟨fun q => go (x_part hN hx (nt q (by unfold isT; decide))), fun _ => ?_⟩
  refine wp_if.mpr ⟨fun q => go (x_tasked hN hx (nt q (by unfold isT; decide))), fun _ => ?_⟩
  exact go (wp_mono (x_stuck hx.1) (fun _ w hw => ⟨hx.flt hw, FRI.lf hw.2.1, fun z => absurd z hw.1⟩))
/-- one pass over the text -/
theorem x_goThrough (hN : 5000000000 ≤ N) (hl : l1 = 0 ∨ l1 = 1) (hT : T ≤ 1500) (h2 : isT (u.2.2.1 2 T)) (ht : TB0 u) (ha : ¬ l1 = 0 → u.1 67 = 0 → GKS u ∧ NUQ u ∧ ∀ k, k ∈ [36, 37, 42, 48, 54] → u.2.2.1 k (toN u) = 0) : wp (F_goThrough N l1 u) (fun _ w => IVQ w T 0 ∧ FRI (sI u 69 l1) w) := by
  unfold F_goThrough B_goThrough_0
  refine wp_zr.mpr ⟨hl, wp_pu.mpr (wp_pu.mpr (wp_pu.mpr (wp_pu.mpr (wp_pu.mpr ?_))))⟩
  generalize ev : sI (sI (sI (sI (sI u 69 l1) 65 0) 66 0) 70 0) 74 0 = v
  have v1 : ∀ k, k ∉ [65, 66, 69, 70, 74] → v.1 k = u.1 k := by
    intro k hk
    simp only [List.mem_cons, List.not_mem_nil, or_false, not_or] at hk
    rw [← ev, sI_1, if_neg hk.2.2.2.2, sI_1, if_neg hk.2.2.2.1, sI_1, if_neg hk.2.1, sI_1, if_neg hk.1, sI_1, if_neg hk.2.2.1]
  have v2 : v.2 = u.2 := by rw [← ev]; rfl
  have v65 : v.1 65 = 0 := by rw [← ev]; rfl
  have v66 : v.1 66 = 0 := by rw [← ev]; rfl
  have v69 : v.1 69 = l1 := by rw [← ev]; rfl
  have vt : toN v = toN u := by unfold toN; rw [v1 56 (by decide)]
  have kv : kP v = 0 := by unfold kP; rw [v65]; decide
  have fv : FRI (sI u 69 l1) v := by
    rw [← ev]
    exact (((FRI.rf.sI (by unfold zi; decide) (by decide)).sI (by unfold zi; decide) (by decide)).sI (by unfold zi; decide) (by decide)).sI (by unfold zi; decide) (by decide)
  have iv : IVQ v T 0 := by
    refine ⟨⟨hT, by rw [v2]; exact h2, by omega, by omega⟩, ?_, fun _ => by unfold opn; rw [v66]; decide, fun hv => ?_⟩
    · unfold TB0 VOK SLT PRT INT CNT
      rw [v2, v1 61 (by decide), v1 72 (by decide), v1 56 (by decide)]
      exact ht
    · obtain ⟨g1, g2, g3⟩ := ha (by rw [← v69]; exact hv.1) (by rw [← v1 67 (by decide)]; exact hv.2)
      have z0 : (0 : Int32).toInt = 0 := by decide
      refine ⟨?_, ?_, ?_⟩
      · unfold GKS GOK
        rw [vt, v2, v1 61 (by decide)]
        exact g1
      · obtain ⟨n1, n2, n3, n4, n5, n6, n7⟩ := g2
        refine ⟨by rw [v1 61 (by decide)]; exact n1, by rw [v1 61 (by decide), v1 62 (by decide)]; exact n2, by rw [v1 62 (by decide)]; exact n3, by rw [vt, v2, v1 62 (by decide)]; exact n4, by rw [vt, v2, v1 62 (by decide)]; exact n5, ?_, ?_⟩
        · unfold KNS
          rw [v2, v1 63 (by decide)]
          exact n6
        · unfold BLK
          rw [vt, v2]
          intro b hb
          obtain ⟨q1, q2⟩ := n7 b hb
          exact ⟨q1, by rw [q2]; exact (ssz_eq (fun i _ => by rw [v2])).symm⟩
      · have e54 : v.2.2.1 54 (toN v) = 0 := by rw [vt, v2]; exact g3 54 (by decide)
        have ep : posR v = bsR v := by unfold posR bsR; rw [e54]; rfl
        refine ⟨by rw [e54, z0]; decide, by rw [e54, z0, kv]; decide, ?_, fun _ => (0, 0, []), ?_, ?_, ?_, ?_⟩
        · intro i hi
          rw [vt, v2, g3 42 (by decide), z0] at hi
          omega
        · intro pc q1 q2
          omega
        · intro f hf
          rw [vt, v2, g3 37 (by decide), z0] at hf
          omega
        · intro f hf
          rw [vt, v2, g3 36 (by decide), z0] at hf
          omega
        · intro f hf
          rw [vt, v2, g3 48 (by decide), z0] at hf
          omega
  rw [wp_bn]
  exact wp_mono (x_text hN iv) (fun _ w hw => wp_some.mpr ⟨hw.1, fv.tr hw.2⟩)
end RText
