/-! The statements of a part, and its end. -/
/-- inside the body of a part or a task that began at u0 -/
def BDI (u0 y : RSt) (T : Nat) (o : Int) (s : Int32) : Prop := TK2 y T ∧ TB0 y ∧ (y.1 67 = 0 → opn y = o) ∧ FRI u0 y ∧ kP u0 < kP y ∧ y.1 74 = 0 ∧ y.1 70 = s ∧ (act y → GKS y ∧ NUQ y ∧ INB y ∧ BOD y ∧ (0 ≤ (y.2.2.1 54 (toN y)).toInt ∧ (y.2.2.1 54 (toN y)).toInt + 2 ≤ 5 * kP y) ∧ (y.1 70 = 3 → 0 ≤ (y.1 71).toInt ∧ (y.1 71).toInt < 48))
section RBody2
variable {u0 u v w y : RSt} {T N k j r : Nat} {o o' e : Int} {x b s l1 l2 l3 l4 l5 l6 op : Int32} {H : Nat → Sh} {α : List (Int × Int)}
theorem CD2.csm (h : CD2 u H) (hc : CSM u w) (hm : md w = md u) : CD2 w H := by
  obtain ⟨h1, h2, h3, h4, h5⟩ := h
  have so : ∀ p, opA w p = opA u p := fun p => (hc.sac p).1
  have en : ∀ {e : Int32} {m : Nat}, EN2 u H e m → EN2 w H e m := by
    intro e m q
    unfold EN2
    rw [hc.bs, hc.pos, hm]
    rcases q with q | q
    · exact Or.inl (q.fq (fun p _ => so p) (fun _ _ => rfl) (Nat.le_refl _))
    · exact Or.inr q
  refine ⟨?_, ?_, ?_, ?_, ?_⟩
  · rw [hc.bs, hc.pos]
    exact fun pc q1 q2 => hc.lc (h1 pc q1 q2) (by omega)
  · rw [hc.1, hc.2 37 (by decide), hc.2 32 (by decide)]
    exact fun f q => en (h2 f q)
  · rw [hc.1, hc.2 36 (by decide), hc.2 32 (by decide)]
    exact fun f q => en (h3 f q)
  · rw [hc.1, hc.2 48 (by decide), hc.2 45 (by decide), hc.2 43 (by decide)]
    unfold TE2 TE at h4 ⊢
    rw [hc.bs, hc.pos, hm]
    exact h4
  · rw [hc.1, hc.bs, hc.pos, hc.2 42 (by decide), hc.2 38 (by decide), hc.2 32 (by decide)]
    exact fun i q => (h5 i q).fq (fun p _ => so p) (fun _ _ => rfl) (Nat.le_refl _)
theorem CD3.csm (h : CD3 u H α r) (hc : CSM u w) (hm : md w = md u) : CD3 w H α r := by
  obtain ⟨h1, h0, h2, h3, h4, h5⟩ := h
  have so : ∀ p, opA w p = opA u p := fun p => (hc.sac p).1
  have en : ∀ {e : Int32} {m : Nat}, EN3 u H α r e m → EN3 w H α r e m := by
    intro e m q
    unfold EN3
    rw [hc.bs, hc.pos, hm]
    rcases q with q | q
    · exact Or.inl (q.fq (fun p _ => so p) (fun _ _ => rfl) (Nat.le_refl _))
    · exact Or.inr q
  refine ⟨?_, by rw [hc.pos, hm]; exact h0, ?_, ?_, ?_, ?_⟩
  · rw [hc.bs, hc.pos]
    exact fun pc q1 q2 => hc.lc (h1 pc q1 q2) (by omega)
  · rw [hc.1, hc.2 37 (by decide), hc.2 32 (by decide)]
    exact fun f q => en (h2 f q)
  · rw [hc.1, hc.2 36 (by decide), hc.2 32 (by decide)]
    exact fun f q => en (h3 f q)
  · rw [hc.1, hc.2 48 (by decide), hc.2 45 (by decide), hc.2 43 (by decide)]
    unfold TE3 TE at h4 ⊢
    rw [hc.bs, hc.pos, hm]
    exact h4
  · rw [hc.1, hc.bs, hc.pos, hc.2 42 (by decide), hc.2 38 (by decide), hc.2 32 (by decide)]
    exact fun i q => (h5 i q).fq (fun p _ => so p) (fun _ _ => rfl) (Nat.le_refl _)
theorem BOD.csm (h : BOD u) (hc : CSM u w) (hm : md w = md u) : BOD w := by
  rcases h with ⟨H, h⟩ | ⟨H, h⟩
  · exact Or.inl ⟨H, h.csm hc hm⟩
  · exact Or.inr ⟨H, by rw [hc.pos]; exact h.csm hc hm⟩
/-- the body's code, ready to be closed -/
theorem BOD.three (h : BOD u) (hp : posR u ≤ 16000) : ∃ H r, CD3 u H [] r ∧ 2 ≤ r := by
  rcases h with ⟨H, h⟩ | ⟨H, h⟩
  · obtain ⟨H', h⟩ := h.three
    exact ⟨H', 2, h, Nat.le_refl _⟩
  · exact ⟨H, _, h, by have := nr_2 hp; omega⟩
theorem INB.of (h : INB u) (ht : toN w = toN u) (hk : ∀ k, k ∈ [36, 38, 42] → w.2.2.1 k = u.2.2.1 k) : INB w := by
  unfold INB
  rw [ht, hk 42 (by decide), hk 36 (by decide), hk 38 (by decide)]
  exact h
/-- a leaf inside the body -/
theorem BDI.lf (h : BDI u0 y T o s) (hl : LFT y w T) (ho : w.1 67 = 0 → opn w = o') : BDI u0 w T o' s := by
  obtain ⟨h1, h2, h3, h4, h5, h6, h7, h8⟩ := h
  have e70 : w.1 70 = y.1 70 := hl.1.2.1 70 (by decide)
  refine ⟨h1.lf hl, h2.ef hl.1.ef, ho, h4.tr (FRI.lf hl.1), by have := hl.2.1; omega, by rw [hl.1.2.1 74 (by decide)]; exact h6, by rw [e70]; exact h7, fun ha => ?_⟩
  obtain ⟨g1, g2, g3, g4, g5, g6⟩ := h8 ((FRI.lf hl.1).ac ha)
  refine ⟨g1.ef hl.1.ef, g2.ef hl.1.ef, g3.of hl.1.to (fun k _ => by rw [hl.1.1]), g4.csm hl.1.csm (by unfold md; rw [e70]), ?_, ?_⟩
  · rw [hl.1.to, hl.1.1]
    have := hl.2.1
    omega
  · rw [e70, hl.1.2.1 71 (by decide)]
    exact g6
theorem BDI.bnd (h : BDI u0 y T o s) : BND y := by
  obtain ⟨h1, h2, -, -, -, -, -, h8⟩ := h
  refine ⟨h2.2.2.2.2.2.2.2.2.1, h2.2.2.2.2.2.2.2.2.2, fun ha => ?_⟩
  obtain ⟨-, -, -, -, g5, -⟩ := h8 ha
  have := h1.1
  have := h1.2.2.2
  omega
theorem BDI.p16 (h : BDI u0 y T o s) (ha : act y) : posR y ≤ 16000 := by
  have b := h.bnd
  have := b.2.2 ha
  have : toN y = (y.1 56).toInt.toNat := rfl
  have := b.1
  have := b.2.1
  unfold posR
  omega
/-- the part ends: what was put stands between items again -/
theorem BDI.close (h : BDI u0 y T o s) (hw : EFr y w) (h65 : w.1 65 = y.1 65) (h67 : w.1 67 = y.1 67) (h66 : w.1 66 = y.1 66) (h54 : act y → 0 ≤ (w.2.2.1 54 (toN w)).toInt ∧ (w.2.2.1 54 (toN w)).toInt ≤ 5 * kP w) (hc : act y → ∃ H, CDH w H) : IVQ (sI w 70 0) T o ∧ FRI u0 (sI w 70 0) ∧ kP u0 < kP (sI w 70 0) := by
  obtain ⟨h1, h2, h3, h4, h5, h6, h7, h8⟩ := h
  have ek : kP w = kP y := by unfold kP; rw [h65]
  have tw : TB0 w := h2.ef hw
  refine ⟨⟨?_, tw, fun z => ?_, fun ha => ?_⟩, (h4.tr (FRI.ef hw)).sI (by unfold zi; decide) (by decide), ?_⟩
  · obtain ⟨b1, b2, b3, b4⟩ := h1
    exact ⟨b1, by show isT (w.2.2.1 2 T); rw [hw.2.1 2 (by decide)]; exact b2, by show 0 ≤ kP w; omega, by show kP w ≤ T; omega⟩
  · show opn w = o
    rw [opn_e h66]
    have z : w.1 67 = 0 := z
    exact h3 (by rw [← h67]; exact z)
  · have ha : act w := ha
    have ay : act y := hw.act ha
    obtain ⟨g1, g2, g3, g4, g5, g6⟩ := h8 ay
    obtain ⟨c1, c2⟩ := h54 ay
    have q : CDQ w := ⟨c1, c2, g3.of hw.to (fun k hk => hw.2.1 k (fun z => by
      simp only [List.mem_cons, List.not_mem_nil, or_false] at z hk
      omega)), hc ay⟩
    have gw : GKS w := g1.ef hw
    exact ⟨gw, by
      have n := g2.ef hw
      obtain ⟨n1, n2, n3, n4, n5, n6, n7⟩ := n
      exact ⟨n1, n2, n3, n4, n5, n6, fun b hb => by
        obtain ⟨g1, g2⟩ := n7 b hb
        exact ⟨g1, g2.trans (ssz_eq (u := w) (w := sI w 70 0) (fun _ _ => rfl)).symm⟩⟩, q.csm ⟨rfl, fun _ _ => rfl⟩ (Int.le_refl _)⟩
  · show kP u0 < kP w
    omega
theorem e_part438 (h : BDI u0 y T 1 s) (hs : (l1 = 0 → s = 2) ∧ (¬ l1 = 0 → s = 3)) : wp (B_part_438 N l1 l2 y) (fun _ w => IVQ w T 0 ∧ FRI u0 w ∧ kP u0 < kP w) := by
  unfold B_part_438
  rw [wp_bn]
  refine wp_mono (x_ends h.1 (by unfold isT; decide) (fun z => by rw [h.2.2.1 z]; decide)) (fun _ a ha => ?_)
  have ba := h.lf (o' := 0) ha.1 (fun z => by have := (ha.2 z).2.2.2; have := h.2.2.1 (ha.2 z).1; omega)
  have bnd := ba.bnd
  refine wp_if.mpr ⟨fun c => ?_, fun c => ?_⟩
  · rw [wp_bn]
    refine wp_mono (r_emit bnd) (fun _ w hw => wp_pu.mpr (wp_some.mpr ?_))
    rcases hw with ⟨hna, rfl⟩ | ⟨haa, -, hm⟩
    · exact ba.close EFr.rf rfl rfl rfl (fun q => absurd q hna) (fun q => absurd q hna)
    · obtain ⟨g1, g2, g3, g4, g5, g6⟩ := ba.2.2.2.2.2.2.2 haa
      have b54 := bnd.2.2 haa
      have e54 := hm.q.2.2.2.1
      have ek : kP w = kP a := by unfold kP; rw [hm.1]
      refine ba.close (hm.q.ef b54.1 (by omega)) (by rw [hm.1]) (by rw [hm.1]) (by rw [hm.1]) (fun _ => ?_) (fun _ => ?_)
      · rw [hm.q.to, e54, ek]
        omega
      · obtain ⟨H, r, h3, hr⟩ := g4.three (ba.p16 haa)
        refine ⟨H, h3.fin hm.q b54.1 (by omega) (by decide) (Or.inl ⟨rfl, Or.inr ?_⟩)⟩
        unfold md
        rw [ba.2.2.2.2.2.2.1, hs.1 c]
        decide
  · rw [wp_bn]
    refine wp_mono (r_push bnd) (fun _ w1 hw1 => ?_)
    rw [wp_bn]
    rcases hw1 with ⟨hna, rfl⟩ | ⟨haa, hm⟩
    · refine wp_mono (r_emit bnd) (fun _ w hw => wp_pu.mpr (wp_some.mpr ?_))
      rcases hw with ⟨-, rfl⟩ | ⟨haa, -, -⟩
      · exact ba.close EFr.rf rfl rfl rfl (fun q => absurd q hna) (fun q => absurd q hna)
      · exact absurd haa hna
    · obtain ⟨g1, g2, g3, g4, g5, g6⟩ := ba.2.2.2.2.2.2.2 haa
      have b54 := bnd.2.2 haa
      have e54 := hm.2.2.2.1
      have t1 := ba.1.1
      have t2 := ba.1.2.2.2
      have a1 : act w1 := by unfold act; rw [hm.1]; exact haa
      have bn1 : BND w1 := ⟨by rw [hm.1]; exact bnd.1, by rw [hm.1]; exact bnd.2.1, fun _ => by rw [hm.to, e54]; omega⟩
      refine wp_mono (r_emit bn1) (fun _ w hw => wp_pu.mpr (wp_some.mpr ?_))
      rcases hw with ⟨hna, rfl⟩ | ⟨-, -, hm2⟩
      · exact absurd a1 hna
      have e542 := hm2.q.2.2.2.1
      have b1 := bn1.2.2 a1
      have ek : kP w = kP a := by unfold kP; rw [hm2.1, hm.1]
      refine ba.close ((hm.ef b54.1 (by omega)).tr (hm2.q.ef b1.1 (by omega))) (by rw [hm2.1, hm.1]) (by rw [hm2.1, hm.1]) (by rw [hm2.1, hm.1]) (fun _ => ?_) (fun _ => ?_)
      · rw [hm2.q.to, e542, hm.to, e54, ek]
        omega
      · obtain ⟨H, r, h3, hr⟩ := g4.three (ba.p16 haa)
        obtain ⟨H1, h4⟩ := h3.num hm b54.1 hr (by decide)
        refine ⟨H1, h4.fin hm2.q b1.1 (by omega) (by decide) (Or.inr ⟨rfl, ?_, _, _, rfl⟩)⟩
        rw [hm.mo]
        unfold md
        rw [ba.2.2.2.2.2.2.1, hs.2 c]
        decide
theorem BDI.pre (h : BDI u0 y T o s) (hz : y.1 67 = 0) : PRE y T ∧ SLK 1 y := by
  obtain ⟨h1, h2, h3, h4, h5, h6, h7, h8⟩ := h
  refine ⟨⟨h1, h2.ta (fun q => (h8 ⟨q, hz⟩).1), fun ha => ?_⟩, fun ha => ?_⟩
  · obtain ⟨-, -, -, -, g5, -⟩ := h8 ha
    omega
  · obtain ⟨-, -, -, -, g5, -⟩ := h8 ha
    omega
theorem BDI.env {o2 : Int} (h : BDI u0 y T o s) (h0 : 0 ≤ o2) : ENVq y o2 := by
  obtain ⟨h1, h2, h3, h4, h5, h6, h7, h8⟩ := h
  have z0 : (0 : Int32).toInt = 0 := by decide
  refine ⟨by rw [h6, z0]; exact Int.le_refl _, by rw [h6, z0]; exact h0, fun ha h70 => ?_⟩
  obtain ⟨-, -, -, -, -, g6⟩ := h8 ha
  exact g6 h70
/-- one statement more -/
theorem BDI.step (h : BDI u0 y T o s) (hF : FSTq y w T o 550) : BDI u0 w T o s := by
  obtain ⟨h1, h2, h3, h4, h5, h6, h7, h8⟩ := id h
  obtain ⟨c1, c2, c3, c4⟩ := hF.1.vv
  have e70 : w.1 70 = y.1 70 := c1.1 70 (by decide)
  refine ⟨h1.cs c1 c2 c3, h2.ef c1, fun z => (hF.1.vv.ho z).1, h4.tr (FRI.ef c1), by omega, by rw [hF.1.l7.1]; exact h6, by rw [e70]; exact h7, fun ha => ?_⟩
  have ay := hF.1.vv.ac ha
  obtain ⟨g1, g2, g3, g4, g5, g6⟩ := h8 ay
  obtain ⟨d1, d2, d3, d4⟩ := hF.1.vv.at_ ha
  refine ⟨g1.ef c1, g2.ef c1, g3.of c1.to (fun k hk => c1.2.1 k (fun z => by
      simp only [List.mem_cons, List.not_mem_nil, or_false] at z hk
      omega)), Or.inr (g4.step hF h6 ha (h.p16 ay)), ?_, ?_⟩
  · refine ⟨d1, ?_⟩
    have et := c1.to
    unfold posR at d3
    rw [et] at d1 d3 ⊢
    omega
  · rw [e70, c1.1 71 (by decide)]
    exact g6
theorem x_stats (hN : 5000000000 ≤ N) (h : BDI u0 y T 1 s) (hs : (l1 = 0 → s = 2) ∧ (¬ l1 = 0 → s = 3)) : wp (LP_part_414 N N (l1, l2, y)) (fun _ w => IVQ w T 0 ∧ FRI u0 w ∧ kP u0 < kP w) := by
  unfold LP_part_414
  refine wp_lp (fun (d : Nat) (x : Int32 × Int32 × RSt) => x.1 = l1 ∧ x.2.1 = l2 ∧ BDI u0 x.2.2 T 1 s ∧ d = (T - kP x.2.2).toNat + (if x.2.2.1 67 = 0 then 1 else 0)) ?_ _ ((T - kP y).toNat + (if y.1 67 = 0 then 1 else 0)) _ (by have := h.1.1; have := h.1.2.2.1; split <;> omega) ⟨rfl, rfl, h, rfl⟩
  rintro d R ⟨m1, m2, z⟩ ⟨hm1, hm2, hz, hd⟩ ih
  have hm1 : m1 = l1 := hm1
  have hm2 : m2 = l2 := hm2
  subst hm1 hm2
  dsimp only at hz hd ih ⊢
  unfold B_part_414
  refine wp_if.mpr ⟨fun c => ?_, fun _ => e_part438 hz hs⟩
  rw [wp_bn]
  refine wp_mono (x_is hz.1) (fun r z' hz' => ?_)
  obtain ⟨rfl, -⟩ := hz'
  refine wp_if.mpr ⟨fun _ => ?_, fun _ => e_part438 hz hs⟩
  rw [wp_bn]
  obtain ⟨p1, p2⟩ := hz.pre c
  refine wp_mono (x_first hN (by decide) p1 p2 c (hz.2.2.1 c) (by decide) (hz.env (o2 := 1 - 1) (by decide))) (fun _ w hw => ?_)
  have hb := hz.step hw
  refine ih _ (m1, m2, w) ?_ ⟨rfl, rfl, hb, rfl⟩
  dsimp only
  rw [hd, if_pos c]
  have k1 := hb.1.2.2.2
  by_cases q : w.1 67 = 0
  · rw [if_pos q]
    have := hw.2.1 q
    omega
  · rw [if_neg q]
    have := hw.1.vv.2.1
    omega
end RBody2
