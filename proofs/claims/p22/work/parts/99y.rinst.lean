/-! Instances. -/
/-- an instance of block b was put -/
def AIN (u w : RSt) (b : Int32) : Prop := toN w = toN u ∧ (∀ k, k ∉ [38, 39, 42, 59, 60, 64] → w.2.2.1 k = u.2.2.1 k) ∧ w.2.2.1 38 = upd (u.2.2.1 38) (24 * toN u + (u.2.2.1 42 (toN u)).toInt.toNat) (24 * u.1 56 + b) ∧ w.2.2.1 42 = upd (u.2.2.1 42) (toN u) (u.2.2.1 42 (toN u) + 1)
/-- the numbers of the kinds, s slots of the block further -/
def INL (v y : RSt) (x0 s : Nat) (l2 : Int32) : Prop := y.1 = v.1 ∧ y.2.1 = v.2.1 ∧ y.2.2.2 = v.2.2.2 ∧ (∀ k, k ≠ 64 → y.2.2.1 k = v.2.2.1 k) ∧ (∀ k, k < 5 → 0 ≤ (y.2.2.1 64 k).toInt ∧ (y.2.2.1 64 k).toInt ≤ 400 + 100 * s) ∧ (y.2.2.1 64 0).toInt + (y.2.2.1 64 1).toInt + (y.2.2.1 64 2).toInt + (y.2.2.1 64 3).toInt + (y.2.2.1 64 4).toInt = (v.2.2.1 64 0).toInt + (v.2.2.1 64 1).toInt + (v.2.2.1 64 2).toInt + (v.2.2.1 64 3).toInt + (v.2.2.1 64 4).toInt + ssz v x0 s ∧ (l2 = 0 → ∀ k, k < 5 → (y.2.2.1 64 k).toInt ≤ 400)
section RInst
variable {u v w : RSt} {T N k j : Nat} {o o' : Int} {x b l1 l2 l3 l4 l5 l6 : Int32} {l7 : Int64}
theorem x_own3 (hN : 5000000000 ≤ N) (h : TABS u) (hk : TK2 u T) (hg : ¬ u.1 69 = 0 → GKS u) : wp (F_own N 3 u) (fun r w => w = u ∧ (r = -1 ∨ (¬ u.1 69 = 0 ∧ 0 ≤ r.toInt ∧ r.toInt < 8 ∧ r.toInt < (u.2.2.1 36 (toN u)).toInt))) := by
  have h0 := h
  obtain ⟨-, -, -, -, -, hm, -⟩ := h
  unfold F_own B_own_0
  refine wp_if.mpr ⟨fun _ => wp_some.mpr ⟨rfl, Or.inl rfl⟩, fun hj => wp_rd.mpr ⟨hk.vin, wp_rd.mpr ⟨hk.vin, ?_⟩⟩⟩
  rw [wp_bn]
  refine wp_mono (x_slotOf hN h0) (fun r w hw => ?_)
  obtain ⟨rfl, -⟩ := hw
  refine wp_if.mpr ⟨fun _ => wp_rd.mpr ⟨hk.vin, wp_rd.mpr ⟨hk.vin, ?_⟩⟩, fun _ => wp_some.mpr ⟨rfl, Or.inl rfl⟩⟩
  rw [wp_bn]
  refine wp_mono (x_named hN hm) (fun r2 w2 hw2 => ?_)
  obtain ⟨rfl, hw2⟩ := hw2
  refine wp_if.mpr ⟨fun _ => wp_some.mpr ⟨rfl, Or.inl rfl⟩, fun c => ?_⟩
  rcases hw2 with q | ⟨q1, q2⟩
  · exact absurd q c
  have hv : vp_in r2 180 := vin_iff.mpr ⟨q1, by omega⟩
  refine wp_rd.mpr ⟨hv, wp_if.mpr ⟨fun c2 => wp_rd.mpr ⟨hv, wp_some.mpr ⟨rfl, Or.inr ⟨hj, ?_⟩⟩⟩, fun _ => wp_some.mpr ⟨rfl, Or.inl rfl⟩⟩⟩
  have hn : r2.toNatClampNeg = r2.toInt.toNat := rfl
  obtain ⟨⟨g0, g1, g2, g3, g4, g5⟩, g6⟩ := hg hj r2.toNatClampNeg (by omega)
  exact ⟨g0, g3 c2, g6 c2⟩
theorem CDQ.ain (h : CDQ u) (ha : AIN u w b) (ht : TB0 u) (hb : 0 ≤ b.toInt ∧ b.toInt < 8 ∧ b.toInt < (u.2.2.1 36 (toN u)).toInt) (h42 : (u.2.2.1 42 (toN u)).toInt < 24) (hk : kP u ≤ kP w) : CDQ w := by
  obtain ⟨h1, h2, h3, H, h4, h5, h6, h7⟩ := h
  obtain ⟨et, a2, a3, a4⟩ := ha
  obtain ⟨t1, t2, t3, t4, t5, t6, t7, t8, t9, t10⟩ := ht
  have tn : (toN u : Int) = (u.1 56).toInt := by show ((u.1 56).toInt.toNat : Int) = _; omega
  have c42 := (t5 (toN u)).2.2.2.2.1
  have e1 : (1 : Int32).toInt = 1 := by decide
  have e24 : (24 : Int32).toInt = 24 := by decide
  have ec : (u.2.2.1 42 (toN u) + 1).toInt = (u.2.2.1 42 (toN u)).toInt + 1 := by rw [tI_add (by rw [e1]; omega) (by rw [e1]; omega), e1]
  have em : (24 * u.1 56).toInt = 24 * (u.1 56).toInt := by rw [tI_mul (by rw [e24]; omega) (by rw [e24]; omega), e24]
  have eb : (24 * u.1 56 + b).toInt = 24 * toN u + b.toInt := by rw [tI_add (by omega) (by omega), em, tn]
  have pw : posR w = posR u := by unfold posR; rw [et, a2 54 (by decide)]
  have bw : bsR w = bsR u := by unfold bsR; rw [et]
  have e8 : bsR u / 8000 = toN u := by unfold bsR; omega
  have so : ∀ p, opA w p = opA u p := fun p => by unfold opA; rw [a2 49 (by decide)]
  have n42 : w.2.2.1 42 (toN u) = u.2.2.1 42 (toN u) + 1 := by rw [a4]; exact if_pos rfl
  have en : ∀ {e : Int32} {m : Nat}, ENT u H (bsR u) (posR u) e m → ENT w H (bsR u) (posR u) e m := by
    intro e m q
    exact q.fr (fun p _ => so p) (fun _ _ => rfl) (Nat.le_refl _)
  refine ⟨by rw [et, a2 54 (by decide)]; exact h1, by rw [et, a2 54 (by decide)]; omega, ?_, H, ?_, ?_, ?_, ?_⟩
  · intro i hi
    rw [et, n42, ec] at hi
    rw [et, a2 36 (by decide), a3]
    unfold upd
    by_cases c : i = (u.2.2.1 42 (toN u)).toInt.toNat
    · rw [if_pos (by rw [c])]
      exact ⟨b.toInt.toNat, by omega, by rw [eb]; omega⟩
    · rw [if_neg (by omega)]
      exact h3 i (by omega)
  · rw [bw, pw]
    intro pc q1 q2
    refine (h4 pc q1 q2).fr2 (fun p _ => so p) (so pc) (by unfold aA; rw [a2 50 (by decide)]) (by unfold bA; rw [a2 51 (by decide)]) ⟨fun j _ _ => ⟨by rw [a2 30 (by decide)], by rw [a2 32 (by decide)]⟩, fun i g1 g2 => ⟨?_, by rw [a2 32 (by decide)]⟩, by rw [a2 37 (by decide)]; exact Int.le_refl _, ?_⟩ (fun _ _ => rfl) (by omega) (Nat.le_refl _)
    · rw [e8] at g1 g2
      rw [a3]
      exact if_neg (by omega)
    · rw [e8, n42, ec]
      omega
  · rw [bw, pw, et, a2 37 (by decide), a2 32 (by decide)]
    exact fun f q => en (h5 f q)
  · rw [bw, pw, et, a2 36 (by decide), a2 32 (by decide)]
    exact fun f q => en (h6 f q)
  · rw [et, a2 48 (by decide), a2 45 (by decide), a2 43 (by decide)]
    unfold TE at h7 ⊢
    rw [bw, pw]
    exact h7
end RInst
