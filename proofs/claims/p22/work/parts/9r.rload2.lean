/-! load keeps the invariant. -/
section RLoad2
variable {u v w z : RSt} {N k j s T : Nat} {x l1 l2 l3 : Int32} {y : Int64}
/-- the side that is made is cleared -/
def CLR (v w : RSt) : Prop := (∀ k, k ∉ [62, 63] → w.1 k = v.1 k) ∧ (w.1 62 = 0 ∧ w.1 63 = 0) ∧ (∀ k, k ∉ [19, 27, 36, 37, 42, 48, 54] → w.2.2.1 k = v.2.2.1 k) ∧ (∀ k, k ∈ [19, 27, 36, 37, 42, 48, 54] → w.2.2.1 k = upd (v.2.2.1 k) (toN v) 0) ∧ w.2.2.2 = v.2.2.2
theorem CLR.ldf (h : CLR v w) (hu : UR u) (hl : LDF u v) : LDF u w := by
  obtain ⟨c1, c2, c3, c4, c5⟩ := h
  obtain ⟨h1, ⟨h2, h3, h88⟩, h4, h5, h6, h7⟩ := hl
  have hs := (side1 hu.2.2.1.1 hu.2.2.1.2 h7).2
  have z0 : (0 : Int32).toInt = 0 := by decide
  obtain ⟨t1, t2, t3, t4, t5, t6, t7, t8, t9, t10⟩ := h5
  have g : ∀ k, k ∈ [19, 27, 36, 37, 42, 48, 54] → ∀ j, (w.2.2.1 k j).toInt = 0 ∨ w.2.2.1 k j = v.2.2.1 k j := by
    intro k hk j
    rw [c4 k hk]
    unfold upd
    by_cases c : j = toN v
    · rw [if_pos c]; exact Or.inl z0
    · rw [if_neg c]; exact Or.inr rfl
  refine ⟨fun k hk => (c1 k (fun q => ?_)).trans (h1 k hk), ⟨(c3 95 (by decide)).trans h2, (c3 96 (by decide)).trans h3, (c3 88 (by decide)).trans h88⟩, h4.tr (fun k hk j hj => ?_), ?_, h6.of (c3 11 (by decide)) (c3 12 (by decide)), (c1 56 (by decide)).trans h7⟩
  · simp only [List.mem_cons, List.not_mem_nil, or_false] at q hk
    omega
  · by_cases c : k ∈ [19, 27, 36, 37, 42, 48, 54]
    · rw [c4 k c]
      refine if_neg (fun z => hs ?_)
      have e : zn k = 1 := by
        simp only [List.mem_cons, List.not_mem_nil, or_false] at c
        rcases c with rfl | rfl | rfl | rfl | rfl | rfl | rfl <;> rfl
      rw [e, Nat.div_one] at hj
      rw [← hj, z]
    · rw [c3 k c]
  · unfold TB0 VOK SLT PRT INT
    rw [c1 61 (by decide), c1 72 (by decide), c1 56 (by decide), c3 10 (by decide), c3 11 (by decide), c3 12 (by decide), c3 13 (by decide), c3 15 (by decide), c3 20 (by decide), c3 21 (by decide), c3 23 (by decide), c3 28 (by decide), c3 29 (by decide), c3 30 (by decide), c3 31 (by decide), c3 33 (by decide), c3 38 (by decide), c3 39 (by decide)]
    refine ⟨t1, t2, t3, t4, fun j => ?_, t6, t7, t8, t9, t10⟩
    obtain ⟨b1, b2, b3, b4, b5, b6⟩ := t5 j
    refine ⟨?_, ?_, ?_, ?_, ?_, ?_⟩
    · rcases g 19 (by decide) j with q | q
      · rw [q]; decide
      · rw [q]; exact b1
    · rcases g 27 (by decide) j with q | q
      · rw [q]; decide
      · rw [q]; exact b2
    · rcases g 36 (by decide) j with q | q
      · rw [q]; decide
      · rw [q]; exact b3
    · rcases g 37 (by decide) j with q | q
      · rw [q]; decide
      · rw [q]; exact b4
    · rcases g 42 (by decide) j with q | q
      · rw [q]; decide
      · rw [q]; exact b5
    · rcases g 48 (by decide) j with q | q
      · rw [q]; decide
      · rw [q]; exact b6
theorem x_load (hN : 5000000000 ≤ N) (hu : UR u) : wp (F_load N l1 u) (fun _ w => UR w ∧ (BQ u → BQ w)) := by
  have z0 : (0 : Int32).toInt = 0 := by decide
  have e1 : (1 : Int32).toInt = 1 := by decide
  have e5 : (5 : Int32).toInt = 5 := by decide
  have e8 : (8 : Int32).toInt = 8 := by decide
  obtain ⟨u1, u2, u3, u4, u5, u6, u7⟩ := id hu
  unfold F_load B_load_0
  refine wp_pu.mpr ?_
  rw [wp_bn]
  refine wp_mono (x_cutAll hN (u := sI u 9 0) u6) (fun _ v hv => ?_)
  obtain ⟨⟨v1, v3, v4, v2⟩, T, hT, hiT⟩ := hv
  refine wp_pu.mpr (wp_pu.mpr (wp_pu.mpr ?_))
  generalize ep : sI (sI (sI v 56 (1 - v.1 55)) 67 0) 68 (-1) = p
  have vk : ∀ k, k ∉ [8, 9] → v.1 k = u.1 k := by
    intro k hk
    simp only [List.mem_cons, List.not_mem_nil, or_false, not_or] at hk
    rw [v1 k hk.1, sI_1, if_neg hk.2]
  have p1 : ∀ k, k ∉ [8, 9, 56, 67, 68] → p.1 k = u.1 k := by
    intro k hk
    simp only [List.mem_cons, List.not_mem_nil, or_false, not_or] at hk
    rw [← ep, sI_1, if_neg hk.2.2.2.2, sI_1, if_neg hk.2.2.2.1, sI_1, if_neg hk.2.2.1]
    exact vk k (by simp only [List.mem_cons, List.not_mem_nil, or_false, not_or]; exact ⟨hk.1, hk.2.1⟩)
  have p56 : p.1 56 = 1 - u.1 55 := by
    rw [← ep]
    show 1 - v.1 55 = _
    rw [vk 55 (by decide)]
  have p67 : p.1 67 = 0 := by rw [← ep]; rfl
  have p3 : ∀ k, k ∉ [2, 3, 5] → p.2.2.1 k = u.2.2.1 k := fun k hk => by rw [← ep]; exact v3 k hk
  have pT : isT (p.2.2.1 2 T) := by rw [← ep]; exact hiT
  obtain ⟨s0, s1⟩ := side1 u3.1 u3.2 p56
  have lp : LDF u p := by
    refine ⟨fun k hk => p1 k (fun q => ?_), ⟨p3 95 (by decide), p3 96 (by decide), p3 88 (by decide)⟩, SZq.of (fun k hk => p3 k (fun q => ?_)), ?_, u2.of (p3 11 (by decide)) (p3 12 (by decide)), p56⟩
    · simp only [List.mem_cons, List.not_mem_nil, or_false] at q hk
      omega
    · simp only [List.mem_cons, List.not_mem_nil, or_false] at q hk
      omega
    · obtain ⟨t1, t2, t3, t4, t5, t6, t7, t8, t9, t10⟩ := u1
      unfold TB0 VOK SLT PRT INT CNT
      rw [p1 61 (by decide), p1 72 (by decide), p3 10 (by decide), p3 11 (by decide), p3 12 (by decide), p3 13 (by decide), p3 15 (by decide), p3 20 (by decide), p3 21 (by decide), p3 23 (by decide), p3 28 (by decide), p3 29 (by decide), p3 30 (by decide), p3 31 (by decide), p3 33 (by decide), p3 38 (by decide), p3 39 (by decide), p3 19 (by decide), p3 27 (by decide), p3 42 (by decide), p3 37 (by decide), p3 36 (by decide), p3 48 (by decide)]
      exact ⟨t1, t2, t3, t4, t5, t6, t7, t8, s0.1, s0.2⟩
  rw [wp_bn]
  refine wp_mono (x_goThrough hN (Or.inl rfl) hT pT lp.2.2.2.1 (fun z => absurd rfl z)) (fun _ w0 hw0 => ?_)
  obtain ⟨i0, f0⟩ := hw0
  have lp' : LDF u (sI p 69 0) := lp.fx (FX.rf.si (a := [69]) (b := []) (c := []) (by decide)) lp.2.2.2.1 (by decide) (by simp)
  have l0 := lp'.fri hu f0 i0.2.1
  have w69 : w0.1 69 = 0 := by rw [f0.1 69 (by unfold zi; decide)]; rfl
  refine wp_if.mpr ⟨fun c0 => ?_, fun c0 => e_load150 hN hu l0 i0 (fun q => absurd q c0)⟩
  have w2 : w0.2.2.1 2 = p.2.2.1 2 := funext fun j => f0.2.2.1 2 j (by unfold zf; decide) (Or.inl (by decide))
  have s0' := (side1 u3.1 u3.2 l0.2.2.2.2.2).1
  have vw : vp_in (w0.1 56) 2 := vin_iff.mpr ⟨s0'.1, by omega⟩
  refine wp_wr.mpr ⟨vw, wp_wr.mpr ⟨vw, wp_wr.mpr ⟨vw, wp_wr.mpr ⟨vw, wp_wr.mpr ⟨vw, wp_wr.mpr ⟨vw, wp_wr.mpr ⟨vw, wp_pu.mpr (wp_pu.mpr ?_)⟩⟩⟩⟩⟩⟩⟩
  generalize eq : sI (sI (sA (sA (sA (sA (sA (sA (sA w0 19 _ _) 27 _ _) 36 _ _) 37 _ _) 42 _ _) 48 _ _) 54 _ _) 62 0) 63 0 = q
  have clr : CLR w0 q := by
    refine ⟨fun k hk => ?_, ⟨by rw [← eq]; rfl, by rw [← eq]; rfl⟩, fun k hk => ?_, fun k hk => ?_, by rw [← eq]; rfl⟩
    · simp only [List.mem_cons, List.not_mem_nil, or_false, not_or] at hk
      rw [← eq, sI_1, if_neg hk.2, sI_1, if_neg hk.1]
      rfl
    · simp only [List.mem_cons, List.not_mem_nil, or_false, not_or] at hk
      rw [← eq]
      show (sA (sA (sA (sA (sA (sA (sA w0 19 _ _) 27 _ _) 36 _ _) 37 _ _) 42 _ _) 48 _ _) 54 _ _).2.2.1 k = _
      rw [sA_3, if_neg hk.2.2.2.2.2.2, sA_3, if_neg hk.2.2.2.2.2.1, sA_3, if_neg hk.2.2.2.2.1, sA_3, if_neg hk.2.2.2.1, sA_3, if_neg hk.2.2.1, sA_3, if_neg hk.2.1, sA_3, if_neg hk.1]
    · simp only [List.mem_cons, List.not_mem_nil, or_false] at hk
      rw [← eq]
      rcases hk with rfl | rfl | rfl | rfl | rfl | rfl | rfl <;> rfl
  have lq := clr.ldf hu l0
  have q2 : q.2.2.1 2 = p.2.2.1 2 := by rw [clr.2.2.1 2 (by decide)]; exact w2
  have q67 : q.1 67 = 0 := by rw [clr.1 67 (by decide)]; exact c0
  have qt : toN q = toN w0 := by unfold toN; rw [clr.1 56 (by decide)]
  have qz : ∀ k, k ∈ [19, 27, 36, 37, 42, 48, 54] → q.2.2.1 k (toN q) = 0 := by
    intro k hk
    rw [clr.2.2.2.1 k hk, qt]
    exact if_pos rfl
  unfold LP_load_123
  refine wp_lp (fun (d : Nat) (x : Int32 × Int32 × RSt) => x.1 = l1 ∧ 0 ≤ x.2.1.toInt ∧ x.2.1.toInt ≤ 5 ∧ FX [] [64] [] q x.2.2 ∧ (∀ i : Nat, (i : Int) < x.2.1.toInt → x.2.2.2.2.1 64 i = 0) ∧ d = (5 - x.2.1.toInt).toNat) ?_ _ 5 _ (by omega) ⟨rfl, by show 0 ≤ (0 : Int32).toInt; decide, by show (0 : Int32).toInt ≤ 5; decide, FX.rf, fun i hi => absurd (show (i : Int) < (0 : Int32).toInt from hi) (by rw [z0]; omega), rfl⟩
  rintro d R ⟨m1, m2, o⟩ ⟨g0, g1, g2, g3, g4, g5⟩ ih
  dsimp only at g0 g1 g2 g3 g4 g5 ih ⊢
  subst g0
  unfold B_load_123
  refine wp_if.mpr ⟨fun cc => ?_, fun cc => ?_⟩
  · have c1 := Int32.le_iff_toInt_le.mp cc
    rw [e5] at c1
    rw [wp_bn]
    refine wp_mono (x_eight hN) (fun _ r hr => ?_)
    obtain ⟨r1, r2, r3⟩ := hr
    have f2 : FX [61] [59, 60, 64] [57, 58] q r := (g3.mo (by simp) (by decide) (by simp)).tr (r1.mo (fun k hk => hk) (by decide) (fun k hk => hk))
    have tr : TB0 r := by
      have hh : ∀ k, k ∈ [10, 11, 12, 13, 15, 19, 20, 21, 23, 27, 28, 29, 30, 31, 33, 36, 37, 38, 39, 42, 48] → r.2.2.1 k = q.2.2.1 k := fun k hk => f2.2.1 k (fun z => by
        simp only [List.mem_cons, List.not_mem_nil, or_false] at z hk
        omega)
      obtain ⟨t1, t2, t3, t4, t5, t6, t7, t8, t9, t10⟩ := lq.2.2.2.1
      unfold TB0 VOK SLT PRT INT CNT
      rw [r2, f2.1 72 (by decide), f2.1 56 (by decide), hh 10 (by decide), hh 11 (by decide), hh 12 (by decide), hh 13 (by decide), hh 15 (by decide), hh 20 (by decide), hh 21 (by decide), hh 23 (by decide), hh 28 (by decide), hh 29 (by decide), hh 30 (by decide), hh 31 (by decide), hh 33 (by decide), hh 38 (by decide), hh 39 (by decide), hh 19 (by decide), hh 27 (by decide), hh 42 (by decide), hh 37 (by decide), hh 36 (by decide), hh 48 (by decide)]
      exact ⟨t1, t2, t3, t4, t5, t6, by rw [e8]; decide, t8, t9, t10⟩
    have lr : LDF u r := lq.fx f2 tr (by decide) (by decide)
    have rt : toN r = toN q := by unfold toN; rw [f2.1 56 (by decide)]
    have rz : ∀ k, k ∈ [19, 27, 36, 37, 42, 48, 54] → r.2.2.1 k (toN r) = 0 := by
      intro k hk
      rw [rt, f2.2.1 k (fun z => by
        simp only [List.mem_cons, List.not_mem_nil, or_false] at z hk
        omega)]
      exact qz k hk
    have r64 : ∀ i, i < 5 → r.2.2.1 64 i = 0 := fun i hi => by
      rw [r1.2.1 64 (by decide)]
      exact g4 i (by omega)
    have r62 : r.1 62 = 0 := by rw [f2.1 62 (by decide)]; exact clr.2.1.1
    have r63 : r.1 63 = 0 := by rw [f2.1 63 (by decide)]; exact clr.2.1.2
    rw [wp_bn]
    refine wp_mono (x_goThrough (T := T) hN (Or.inr rfl) hT (by rw [f2.2.1 2 (by decide), q2]; exact pT) tr (fun _ _ => ⟨?_, ⟨?_, ?_, ?_, ?_, ?_, ⟨?_, ?_⟩, ?_⟩, fun k hk => rz k (by
        simp only [List.mem_cons, List.not_mem_nil, or_false] at hk ⊢
        omega)⟩)) (fun _ w hw => ?_)
    · intro g hg
      rw [r2, e8] at hg
      obtain ⟨a1, a2⟩ := r3 g (by omega)
      unfold GOK
      rw [a1, a2]
      exact ⟨⟨by omega, fun z => absurd z (by decide), fun z => absurd z (by decide), fun z => absurd z (by decide), fun z => absurd z (by decide), fun _ => by omega⟩, fun z => absurd z (by decide)⟩
    · rw [r2, e8]; decide
    · rw [r2, e8, r62, z0]; decide
    · rw [r62, z0]; decide
    · rw [rz 19 (by decide), r62]; exact Int.le_refl _
    · rw [rz 27 (by decide), r62]; exact Int.le_refl _
    · intro k hk
      rw [r64 k hk, z0]; decide
    · rw [r63, r64 0 (by omega), r64 1 (by omega), r64 2 (by omega), r64 3 (by omega), r64 4 (by omega), z0]; decide
    · intro b hb
      rw [rz 36 (by decide), z0] at hb
      omega
    · obtain ⟨i2, f3⟩ := hw
      have lr' : LDF u (sI r 69 1) := lr.fx (FX.rf.si (a := [69]) (b := []) (c := []) (by decide)) tr (by decide) (by simp)
      refine e_load150 hN hu (lr'.fri hu f3 i2.2.1) i2 (fun _ => ?_)
      rw [f3.1 69 (by unfold zi; decide)]
      show ¬ (1 : Int32) = 0
      decide
  · have c1 := Int32.lt_iff_toInt_lt.mp (Int32.not_le.mp cc)
    rw [e5] at c1
    have el : (m2 + 1).toInt = m2.toInt + 1 := by rw [tI_add (by rw [e1]; omega) (by rw [e1]; omega), e1]
    have mn : m2.toNatClampNeg = m2.toInt.toNat := rfl
    refine wp_wr.mpr ⟨vin_iff.mpr ⟨g1, by omega⟩, ih ((5 - (m2 + 1).toInt).toNat) _ (by omega) ⟨rfl, by show 0 ≤ (m2 + 1).toInt; omega, by show (m2 + 1).toInt ≤ 5; omega, g3.sa (by decide), fun i hi => ?_, rfl⟩⟩
    have hi : (i : Int) < (m2 + 1).toInt := hi
    show upd (o.2.2.1 64) m2.toNatClampNeg 0 i = 0
    unfold upd
    by_cases c : i = m2.toNatClampNeg
    · rw [if_pos c]
    · rw [if_neg c]
      exact g4 i (by omega)
end RLoad2
