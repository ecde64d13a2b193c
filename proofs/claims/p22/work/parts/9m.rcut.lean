/-! The cutting of the tape into tokens. -/
section RCut
variable {u v w : RSt} {N j : Nat} {l1 l2 l3 x : Int32}
theorem dec1 {m : Int32} (h : 0 ≤ m.toInt) : (m + (-1)).toInt = m.toInt - 1 := by
  have em : (-1 : Int32).toInt = -1 := by decide
  have hm : m.toInt ≤ 2147483647 := Int32.toInt_le m
  have e := tI_add (a := m) (b := -1) (by rw [em]; omega) (by rw [em]; omega)
  rw [em] at e
  exact e
theorem x_token (hN : 5000000000 ≤ N) (ht : TPq u) (h1 : 0 ≤ l1.toInt ∧ l1.toInt ≤ 6000) (h8 : vp_in (u.1 8) 1502) : wp (F_token N l1 u) (fun r w => CTq u w ∧ 0 ≤ r.toInt ∧ r.toInt ≤ 6010) := by
  have e1 : (1 : Int32).toInt = 1 := by decide
  have e2 : (2 : Int32).toInt = 2 := by decide
  have e3 : (3 : Int32).toInt = 3 := by decide
  have el1 : (l1 + 1).toInt = l1.toInt + 1 := by rw [tI_add (by rw [e1]; omega) (by rw [e1]; omega), e1]
  have el2 : (l1 + 2).toInt = l1.toInt + 2 := by rw [tI_add (by rw [e2]; omega) (by rw [e2]; omega), e2]
  have el3 : (l1 + 3).toInt = l1.toInt + 3 := by rw [tI_add (by rw [e3]; omega) (by rw [e3]; omega), e3]
  unfold F_token B_token_0
  rw [wp_bn]
  refine wp_mono (x_see ht h1.1) (fun r u' hw => ?_)
  obtain ⟨rfl, -⟩ := hw
  refine wp_wr.mpr ⟨h8, wp_wr.mpr ⟨h8, wp_wr.mpr ⟨h8, wp_wr.mpr ⟨h8, ?_⟩⟩⟩⟩
  have c0 : CTq u' (sB (sA (sA (sA u' 3 (u'.1 8).toNatClampNeg l1) 2 (u'.1 8).toNatClampNeg 0) 5 (u'.1 8).toNatClampNeg (vp_nar .boolean 0)) 4 (u'.1 8).toNatClampNeg 0) := CTq.rf.a3.a2.a5.b4
  generalize sB (sA (sA (sA u' 3 (u'.1 8).toNatClampNeg l1) 2 (u'.1 8).toNatClampNeg 0) 5 (u'.1 8).toNatClampNeg (vp_nar .boolean 0)) 4 (u'.1 8).toNatClampNeg 0 = v at c0 ⊢
  have tv := c0.tp ht
  have v8 : vp_in (v.1 8) 1502 := by rw [c0.1]; exact h8
  refine wp_if.mpr ⟨fun _ => wp_if.mpr ⟨fun _ => wp_if.mpr ⟨fun _ => ?_, fun _ => ?_⟩, fun _ => ?_⟩, fun _ => ?_⟩
  · rw [wp_bn]
    refine wp_mono (x_see tv (by omega)) (fun r w hw => ?_)
    obtain ⟨rfl, -⟩ := hw
    refine wp_if.mpr ⟨fun _ => wp_some.mpr ⟨c0, by omega, by omega⟩, fun _ => ?_⟩
    rw [wp_bn]
    refine wp_mono (x_see tv (by omega)) (fun r w2 hw => ?_)
    obtain ⟨rfl, -⟩ := hw
    refine wp_if.mpr ⟨fun _ => wp_some.mpr ⟨c0, by omega, by omega⟩, fun _ => ?_⟩
    rw [wp_bn]
    refine wp_mono (x_see tv (by omega)) (fun r w3 hw => ?_)
    obtain ⟨rfl, -⟩ := hw
    refine wp_if.mpr ⟨fun _ => wp_wr.mpr ⟨h8, ?_⟩, fun _ => wp_some.mpr ⟨c0, by omega, by omega⟩⟩
    rw [wp_bn]
    refine wp_mono (x_see (CTq.rf.a2.tp tv) (by omega)) (fun r w4 hw => ?_)
    obtain ⟨rfl, -⟩ := hw
    exact wp_wr.mpr ⟨h8, wp_some.mpr ⟨c0.a2.b4, by omega, by omega⟩⟩
  · unfold LP_token_135
    refine wp_lp (fun (d : Nat) (x : Int32 × Int32 × Int32 × RSt) => x.1 = l1 ∧ x.2.1 = u'.1 8 ∧ x.2.2.2 = v ∧ 0 ≤ x.2.2.1.toInt ∧ x.2.2.1.toInt ≤ 4 ∧ d = x.2.2.1.toInt.toNat) ?_ _ 4 _ (by omega) ⟨rfl, rfl, rfl, by show 0 ≤ (4 : Int32).toInt; decide, by show (4 : Int32).toInt ≤ 4; decide, rfl⟩
    rintro d R ⟨m1, m3, m4, y⟩ ⟨q1, q2, q3, q4, q5, q6⟩ ih
    dsimp only at q1 q2 q3 q4 q5 q6 ih ⊢
    subst q1 q2 q3
    unfold B_token_135
    refine wp_if.mpr ⟨fun _ => wp_some.mpr ⟨c0, by omega, by omega⟩, fun c => ?_⟩
    have c1 := Int32.lt_iff_toInt_lt.mp (Int32.not_le.mp c)
    have z0 : (0 : Int32).toInt = 0 := by decide
    rw [z0] at c1
    have e14 : (m1 + m4).toInt = m1.toInt + m4.toInt := tI_add (by omega) (by omega)
    have e164 : ∀ s : Int32, wp (B_token_164 N R m1 (u'.1 8) m4 s y) (fun r w => CTq u' w ∧ 0 ≤ r.toInt ∧ r.toInt ≤ 6010) := by
      intro s
      unfold B_token_164
      have e4 := dec1 q4
      generalize m4 + (-1) = k at e4 ⊢
      refine wp_if.mpr ⟨fun _ => ?_, fun _ => wp_wr.mpr ⟨h8, wp_some.mpr ⟨c0.a2, by omega, by omega⟩⟩⟩
      exact ih k.toInt.toNat (m1, u'.1 8, k, y) (by omega) ⟨rfl, rfl, rfl, by show 0 ≤ k.toInt; omega, by show k.toInt ≤ 4; omega, rfl⟩
    refine wp_if.mpr ⟨fun _ => e164 _, fun _ => ?_⟩
    rw [wp_bn]
    refine wp_mono (x_among_4 hN tv ⟨h1.1, by omega⟩) (fun r w hw => ?_)
    subst hw
    exact e164 _
  · rw [wp_bn]
    exact wp_mono (x_figures hN tv h1 v8) (fun r w hw => wp_some.mpr ⟨c0.tr hw.1, hw.2⟩)
  · rw [wp_bn]
    exact wp_mono (x_word hN tv h1 v8) (fun r w hw => wp_some.mpr ⟨c0.tr hw.1, hw.2⟩)
/-- beside the tokens only their number changes -/
def CUTq (u w : RSt) : Prop := (∀ k, k ≠ 8 → w.1 k = u.1 k) ∧ (∀ k, k ∉ [2, 3, 5] → w.2.2.1 k = u.2.2.1 k) ∧ (∀ k, k ∉ [4, 6, 7] → w.2.2.2 k = u.2.2.2 k) ∧ w.2.1 = u.2.1
theorem CUTq.ct (h : CUTq u v) (h2 : CTq v w) : CUTq u w := ⟨fun k hk => by rw [h2.1]; exact h.1 k hk, fun k hk => (h2.2.1 k hk).trans (h.2.1 k hk), fun k hk => (h2.2.2.1 k hk).trans (h.2.2.1 k hk), h2.2.2.2.trans h.2.2.2⟩
theorem CUTq.tp (h : CUTq u w) (ht : TPq u) : TPq w := by unfold TPq; rw [h.1 1 (by decide)]; exact ht
theorem CUTq.n8 (h : CUTq u w) : CUTq u (sI w 8 x) := ⟨fun k hk => by rw [sI_1, if_neg hk]; exact h.1 k hk, h.2.1, h.2.2.1, h.2.2.2⟩
theorem x_cutAll (hN : 5000000000 ≤ N) (ht : TPq u) : wp (F_cutAll N u) (fun _ w => CUTq u w ∧ ∃ T, T ≤ 1500 ∧ isT (w.2.2.1 2 T)) := by
  have e1 : (1 : Int32).toInt = 1 := by decide
  have z0 : (0 : Int32).toInt = 0 := by decide
  have e1500 : (1500 : Int32).toInt = 1500 := by decide
  unfold F_cutAll B_cutAll_0
  refine wp_pu.mpr ?_
  have c0 : CUTq u (sI u 8 0) := CUTq.n8 ⟨fun _ _ => rfl, fun _ _ => rfl, fun _ _ => rfl, rfl⟩
  unfold LP_cutAll_9
  refine wp_lp (fun (d : Nat) (x : Int32 × Int32 × RSt) => 0 ≤ x.1.toInt ∧ x.1.toInt ≤ 6010 ∧ CUTq u x.2.2 ∧ (x.2.1 = 0 → ∃ T, T ≤ 1500 ∧ isT (x.2.2.2.2.1 2 T)) ∧ (¬ x.2.1 = 0 → 0 ≤ (x.2.2.1 8).toInt ∧ (x.2.2.1 8).toInt ≤ 1500) ∧ d = (if x.2.1 = 0 then 0 else (1501 - (x.2.2.1 8).toInt).toNat)) ?_ _ 1501 _ (by omega) ⟨by show 0 ≤ (0 : Int32).toInt; decide, by show (0 : Int32).toInt ≤ 6010; decide, c0, fun z => absurd (show (1 : Int32) = 0 from z) (by decide), fun _ => ⟨by show 0 ≤ (0 : Int32).toInt; decide, by show (0 : Int32).toInt ≤ 1500; decide⟩, rfl⟩
  rintro d R ⟨m1, m2, y⟩ ⟨q1, q2, q3, q4, q5, q6⟩ ih
  dsimp only at q1 q2 q3 q4 q5 q6 ih ⊢
  unfold B_cutAll_9
  refine wp_if.mpr ⟨fun c => wp_some.mpr ⟨q3, q4 c⟩, fun c => ?_⟩
  obtain ⟨g1, g2⟩ := q5 c
  rw [if_neg c] at q6
  have ty := q3.tp ht
  have y8 : vp_in (y.1 8) 1502 := vin_iff.mpr ⟨g1, by omega⟩
  unfold LP_cutAll_15
  refine wp_lp (fun (d : Nat) (x : Int32 × Int32 × Int32 × RSt) => 0 ≤ x.1.toInt ∧ x.1.toInt ≤ 6010 ∧ x.2.1 = m2 ∧ x.2.2.2 = y ∧ d = (6010 - x.1.toInt).toNat + (if x.2.2.1 = 0 then 0 else 1)) ?_ _ ((6010 - m1.toInt).toNat + 1) _ (by omega) ⟨q1, q2, rfl, rfl, rfl⟩
  rintro d2 R2 ⟨n1, n2, n3, x⟩ ⟨p1, p2, p3, p4, p5⟩ ih2
  dsimp only at p1 p2 p3 p4 p5 ih2 ⊢
  subst p3 p4
  have tx := ty
  have t2 := tx.2
  unfold B_cutAll_15
  refine wp_if.mpr ⟨fun c3 => ?_, fun c3 => ?_⟩
  · refine wp_if.mpr ⟨fun c4 => ?_, fun c4 => ?_⟩
    · have c4 := Int32.lt_iff_toInt_lt.mp c4
      rw [wp_bn]
      refine wp_mono (x_token hN tx ⟨p1, by omega⟩ y8) (fun r w hw => ?_)
      obtain ⟨w1, w2, w3⟩ := hw
      have w8 : w.1 8 = x.1 8 := by rw [w1.1]
      have vw : vp_in (w.1 8) 1502 := by rw [w8]; exact y8
      have wn : (w.1 8).toNatClampNeg = (x.1 8).toInt.toNat := by rw [w8]; rfl
      have e169 : ∀ (l : Int32) (z : RSt), CUTq u z → z.1 8 = x.1 8 → (l = 0 → ∃ T, T ≤ 1500 ∧ isT (z.2.2.1 2 T)) → (¬ l = 0 → (x.1 8).toInt < 1500) → wp (B_cutAll_169 N R r l z) (fun _ w => CUTq u w ∧ ∃ T, T ≤ 1500 ∧ isT (w.2.2.1 2 T)) := by
        intro l z hz h8 hT hl
        unfold B_cutAll_169 B_cutAll_179
        refine wp_pu.mpr ?_
        have e8 : (z.1 8 + 1).toInt = (x.1 8).toInt + 1 := by rw [h8, tI_add (by rw [e1]; omega) (by rw [e1]; omega), e1]
        refine ih (if l = 0 then 0 else (1501 - (z.1 8 + 1).toInt).toNat) (r, l, sI z 8 (z.1 8 + 1)) ?_ ⟨w2, w3, hz.n8, hT, fun q => ⟨by show 0 ≤ (z.1 8 + 1).toInt; omega, by have := hl q; show (z.1 8 + 1).toInt ≤ 1500; omega⟩, rfl⟩
        split <;> omega
      refine wp_rd.mpr ⟨vw, ?_⟩
      refine wp_if.mpr ⟨fun q => e169 0 w (q3.ct w1) w8 (fun _ => ⟨_, by omega, Or.inl q⟩) (fun z => absurd rfl z), fun q => wp_if.mpr ⟨fun q' => wp_wr.mpr ⟨vw, e169 0 _ (q3.ct w1.a2) w8 (fun _ => ⟨(w.1 8).toNatClampNeg, by omega, Or.inr (Or.inr ?_)⟩) (fun z => absurd rfl z)⟩, fun q' => e169 n2 w (q3.ct w1) w8 (fun z => absurd z c) (fun _ => ?_)⟩⟩
      · rw [sA_3, if_pos rfl]
        exact if_pos rfl
      · have : ¬ (w.1 8).toInt = 1500 := fun z => q' (Int32.toInt_inj.mp (by rw [z, e1500]))
        rw [w8] at this
        omega
    · refine wp_wr.mpr ⟨y8, wp_wr.mpr ⟨y8, ?_⟩⟩
      unfold B_cutAll_179
      refine ih 0 (n1, 0, _) (by omega) ⟨p1, p2, q3.ct CTq.rf.a2.a3, fun _ => ⟨(x.1 8).toNatClampNeg, by show (x.1 8).toInt.toNat ≤ 1500; omega, Or.inr (Or.inl ?_)⟩, fun z => absurd rfl z, rfl⟩
      show upd (x.2.2.1 2) (x.1 8).toNatClampNeg 5 (x.1 8).toNatClampNeg = 5
      exact if_pos rfl
  · have el1 : (n1 + 1).toInt = n1.toInt + 1 := by rw [tI_add (by rw [e1]; omega) (by rw [e1]; omega), e1]
    rw [if_neg c3] at p5
    rw [wp_bn]
    refine wp_mono (x_see tx p1) (fun r w hw => ?_)
    obtain ⟨rfl, rfl⟩ := hw
    have e82 : wp (B_cutAll_82 N R R2 n1 n2 w) (fun _ w => CUTq u w ∧ ∃ T, T ≤ 1500 ∧ isT (w.2.2.1 2 T)) := by
      unfold B_cutAll_82
      exact ih2 ((6010 - n1.toInt).toNat + 0) _ (by omega) ⟨p1, p2, rfl, rfl, rfl⟩
    refine wp_if.mpr ⟨fun _ => ?_, fun q => ?_⟩
    · rw [wp_bn]
      refine wp_mono (x_see tx p1) (fun r w2 hw => ?_)
      obtain ⟨rfl, rfl⟩ := hw
      refine wp_if.mpr ⟨fun c47 => ?_, fun _ => e82⟩
      rw [wp_bn]
      refine wp_mono (x_see tx (by omega)) (fun r w3 hw => ?_)
      obtain ⟨rfl, -⟩ := hw
      refine wp_if.mpr ⟨fun _ => ?_, fun _ => e82⟩
      have ns : ¬ seV w3 n1 = -1 := by rw [c47]; decide
      have lt1 := seV_in ns
      unfold LP_cutAll_58
      refine wp_lp (fun (d : Nat) (x : Int32 × Int32 × Int32 × RSt) => n1.toInt ≤ x.1.toInt ∧ x.1.toInt ≤ 6010 ∧ x.2.1 = n2 ∧ x.2.2.1 = n3 ∧ x.2.2.2 = w3 ∧ d = (6010 - x.1.toInt).toNat) ?_ _ ((6010 - n1.toInt).toNat) _ (by omega) ⟨Int.le_refl _, p2, rfl, rfl, rfl, rfl⟩
      rintro d3 R3 ⟨k1, k2, k3, z⟩ ⟨s1, s2, s3, s4, s5, s6⟩ ih3
      dsimp only at s1 s2 s3 s4 s5 s6 ih3 ⊢
      subst s3 s4 s5
      have ek : (k1 + 1).toInt = k1.toInt + 1 := by rw [tI_add (by rw [e1]; omega) (by rw [e1]; omega), e1]
      have out : n1.toInt < k1.toInt → wp (R2 (k1, k2, k3, z)) (fun _ w => CUTq u w ∧ ∃ T, T ≤ 1500 ∧ isT (w.2.2.1 2 T)) := fun hlt =>
        ih2 ((6010 - k1.toInt).toNat + 1) _ (by omega) ⟨by show 0 ≤ k1.toInt; omega, s2, rfl, rfl, by rw [if_neg c3]⟩
      unfold B_cutAll_58
      refine wp_if.mpr ⟨fun g => out ?_, fun g => ?_⟩
      · have g := Int32.le_iff_toInt_le.mp g
        omega
      · have g := Int32.lt_iff_toInt_lt.mp (Int32.not_le.mp g)
        rw [wp_bn]
        refine wp_mono (x_see tx (by omega)) (fun r w4 hw => ?_)
        obtain ⟨rfl, rfl⟩ := hw
        refine wp_if.mpr ⟨fun g10 => out ?_, fun _ => ?_⟩
        · have : k1.toInt ≠ n1.toInt := fun z => by
            have : k1 = n1 := Int32.toInt_inj.mp z
            rw [this, c47] at g10
            exact absurd g10 (by decide)
          omega
        · exact ih3 ((6010 - (k1 + 1).toInt).toNat) _ (by omega) ⟨by show n1.toInt ≤ (k1 + 1).toInt; omega, by show (k1 + 1).toInt ≤ 6010; omega, rfl, rfl, rfl, rfl⟩
    · have ns : ¬ seV w n1 = -1 := fun z => q (by rw [z]; exact blk_1)
      have lt1 := seV_in ns
      exact ih2 ((6010 - (n1 + 1).toInt).toNat + 1) _ (by omega) ⟨by show 0 ≤ (n1 + 1).toInt; omega, by show (n1 + 1).toInt ≤ 6010; omega, rfl, rfl, by rw [if_neg c3]⟩
end RCut
