/-! Words, figures, tokens. -/
/-- only rows of tokens change -/
def CTq (u w : RSt) : Prop := w.1 = u.1 ∧ (∀ k, k ∉ [2, 3, 5] → w.2.2.1 k = u.2.2.1 k) ∧ (∀ k, k ∉ [4, 6, 7] → w.2.2.2 k = u.2.2.2 k) ∧ w.2.1 = u.2.1
section RTok
variable {u v w : RSt} {N j : Nat} {l1 l2 l3 x s0 s1 s2 l4 l5 l6 l7 l11 l12 : Int32} {l9 : Int64}
theorem CTq.rf : CTq u u := ⟨rfl, fun _ _ => rfl, fun _ _ => rfl, rfl⟩
theorem CTq.tr (h : CTq u v) (h2 : CTq v w) : CTq u w := ⟨h2.1.trans h.1, fun k hk => (h2.2.1 k hk).trans (h.2.1 k hk), fun k hk => (h2.2.2.1 k hk).trans (h.2.2.1 k hk), h2.2.2.2.trans h.2.2.2⟩
theorem CTq.a2 (h : CTq u w) : CTq u (sA w 2 j x) := h.tr ⟨rfl, fun k hk => by rw [sA_3, if_neg (fun z => by subst z; exact hk (by decide))], fun _ _ => rfl, rfl⟩
theorem CTq.a3 (h : CTq u w) : CTq u (sA w 3 j x) := h.tr ⟨rfl, fun k hk => by rw [sA_3, if_neg (fun z => by subst z; exact hk (by decide))], fun _ _ => rfl, rfl⟩
theorem CTq.a5 (h : CTq u w) : CTq u (sA w 5 j x) := h.tr ⟨rfl, fun k hk => by rw [sA_3, if_neg (fun z => by subst z; exact hk (by decide))], fun _ _ => rfl, rfl⟩
theorem CTq.b4 {y : Int64} (h : CTq u w) : CTq u (sB w 4 j y) := h.tr ⟨rfl, fun _ _ => rfl, fun k hk => by rw [sB_4, if_neg (fun z => by subst z; exact hk (by decide))], rfl⟩
theorem CTq.b6 {y : Int64} (h : CTq u w) : CTq u (sB w 6 j y) := h.tr ⟨rfl, fun _ _ => rfl, fun k hk => by rw [sB_4, if_neg (fun z => by subst z; exact hk (by decide))], rfl⟩
theorem CTq.b7 {y : Int64} (h : CTq u w) : CTq u (sB w 7 j y) := h.tr ⟨rfl, fun _ _ => rfl, fun k hk => by rw [sB_4, if_neg (fun z => by subst z; exact hk (by decide))], rfl⟩
theorem CTq.tp (h : CTq u w) (ht : TPq u) : TPq w := by unfold TPq; rw [h.1]; exact ht
theorem let_1 : r_let (-1) = 0 := by decide
theorem dig_1 : r_dig (-1) = 0 := by decide
theorem hex_1 : r_hex (-1) = -1 := by decide
theorem blk_1 : r_blank (-1) = 0 := by decide
theorem x_word (hN : 5000000000 ≤ N) (ht : TPq u) (h1 : 0 ≤ l1.toInt ∧ l1.toInt ≤ 6000) (h8 : vp_in (u.1 8) 1502) : wp (F_word N l1 u) (fun r w => CTq u w ∧ 0 ≤ r.toInt ∧ r.toInt ≤ 6010) := by
  have e1 : (1 : Int32).toInt = 1 := by decide
  unfold F_word B_word_0 LP_word_2
  refine wp_lp (fun (d : Nat) (x : Int32 × Int32 × RSt) => x.1 = l1 ∧ x.2.2 = u ∧ 0 ≤ x.2.1.toInt ∧ x.2.1.toInt ≤ 6000 ∧ d = (6000 - x.2.1.toInt).toNat) ?_ _ ((6000 - l1.toInt).toNat) _ (by omega) ⟨rfl, rfl, h1.1, h1.2, rfl⟩
  rintro d R ⟨m1, m2, v⟩ ⟨q1, q2, q3, q4, q5⟩ ih
  dsimp only at q1 q2 q3 q4 q5 ih ⊢
  subst q1 q2
  have on : ¬ seV v m2 = -1 → wp (B_word_24 N R m1 m2 v) (fun r w => CTq v w ∧ 0 ≤ r.toInt ∧ r.toInt ≤ 6010) := by
    intro hs
    have := seV_in hs
    have := ht.2
    have el : (m2 + 1).toInt = m2.toInt + 1 := by rw [tI_add (by rw [e1]; omega) (by rw [e1]; omega), e1]
    unfold B_word_24
    exact ih ((6000 - (m2 + 1).toInt).toNat) _ (by omega) ⟨rfl, rfl, by show 0 ≤ (m2 + 1).toInt; omega, by show (m2 + 1).toInt ≤ 6000; omega, rfl⟩
  unfold B_word_2
  rw [wp_bn]
  refine wp_mono (x_see ht q3) (fun r w hw => ?_)
  obtain ⟨rfl, rfl⟩ := hw
  refine wp_if.mpr ⟨fun _ => ?_, fun c => on (fun z => c (by rw [z]; exact let_1))⟩
  rw [wp_bn]
  refine wp_mono (x_see ht q3) (fun r w2 hw => ?_)
  obtain ⟨rfl, rfl⟩ := hw
  refine wp_if.mpr ⟨fun _ => ?_, fun c => on (fun z => c (by rw [z]; exact dig_1))⟩
  rw [wp_bn]
  refine wp_mono (x_among_3 hN ht ⟨h1.1, by omega⟩) (fun r w3 hw => ?_)
  subst hw
  refine wp_if.mpr ⟨fun _ => wp_if.mpr ⟨fun _ => wp_some.mpr ⟨CTq.rf, q3, by omega⟩, fun _ => wp_wr.mpr ⟨h8, ?_⟩⟩, fun _ => wp_wr.mpr ⟨h8, wp_some.mpr ⟨CTq.rf.a2, q3, by omega⟩⟩⟩
  rw [wp_bn]
  refine wp_mono (x_packed hN (CTq.rf.a2.tp ht) ⟨h1.1, by omega⟩ (by decide)) (fun _ w4 hw4 => ?_)
  subst hw4
  refine wp_wr.mpr ⟨h8, ?_⟩
  rw [wp_bn]
  refine wp_mono (x_packed hN (CTq.rf.a2.b6.tp ht) ⟨h1.1, by omega⟩ (by decide)) (fun _ w5 hw5 => ?_)
  subst hw5
  exact wp_wr.mpr ⟨h8, wp_some.mpr ⟨CTq.rf.a2.b6.b7, q3, by omega⟩⟩
theorem e_fig355 (h8 : vp_in (u.1 8) 1502) (h7 : 0 ≤ l7.toInt ∧ l7.toInt ≤ 6010) : wp (B_figures_355 N l6 l7 l9 (u.1 8) (u.1 8) s2 u) (fun r w => CTq u w ∧ 0 ≤ r.toInt ∧ r.toInt ≤ 6010) := by
  unfold B_figures_355
  exact wp_wr.mpr ⟨h8, wp_wr.mpr ⟨h8, wp_wr.mpr ⟨h8, wp_some.mpr ⟨CTq.rf.a2.b4.a5, h7.1, h7.2⟩⟩⟩⟩
theorem e_fig333 (h8 : vp_in (u.1 8) 1502) (h7 : 0 ≤ l7.toInt ∧ l7.toInt ≤ 6010) : wp (B_figures_333 N l6 l7 l9 l11 u) (fun r w => CTq u w ∧ 0 ≤ r.toInt ∧ r.toInt ≤ 6010) := by
  unfold B_figures_333
  exact wp_if.mpr ⟨fun _ => e_fig355 h8 h7, fun _ => e_fig355 h8 h7⟩
theorem e_fig325 (h8 : vp_in (u.1 8) 1502) (h7 : 0 ≤ l7.toInt ∧ l7.toInt ≤ 6010) : wp (B_figures_325 N l6 l7 l9 s0 u) (fun r w => CTq u w ∧ 0 ≤ r.toInt ∧ r.toInt ≤ 6010) := by
  unfold B_figures_325
  exact e_fig333 h8 h7
theorem e_fig324 (h8 : vp_in (u.1 8) 1502) (h7 : 0 ≤ l7.toInt ∧ l7.toInt ≤ 6010) : wp (B_figures_324 N l6 l7 l9 u) (fun r w => CTq u w ∧ 0 ≤ r.toInt ∧ r.toInt ≤ 6010) := by
  unfold B_figures_324
  exact e_fig325 h8 h7
theorem e_fig191 (hN : 5000000000 ≤ N) (ht : TPq u) (h8 : vp_in (u.1 8) 1502) (h7 : 0 ≤ l7.toInt ∧ l7.toInt ≤ 6010) (h3 : 0 ≤ l3.toInt ∧ l3.toInt ≤ 6010) (h4 : l4.toInt ≤ 6010) : wp (B_figures_191 N l2 l3 l4 l6 l7 s0 u) (fun r w => CTq u w ∧ 0 ≤ r.toInt ∧ r.toInt ≤ 6010) := by
  have e1 : (1 : Int32).toInt = 1 := by decide
  unfold B_figures_191
  refine wp_if.mpr ⟨fun _ => wp_some.mpr ⟨CTq.rf, h7.1, h7.2⟩, fun _ => ?_⟩
  unfold LP_figures_210
  refine wp_lp (fun (d : Nat) (x : Int32 × Int32 × Int32 × Int32 × Int64 × Int32 × Int32 × RSt) => x.2.1 = l4 ∧ x.2.2.2.1 = l7 ∧ x.2.2.2.2.2.2.2 = u ∧ 0 ≤ x.2.2.2.2.2.2.1.toInt ∧ x.2.2.2.2.2.2.1.toInt ≤ 6020 ∧ d = (6100 - x.2.2.2.2.2.2.1.toInt).toNat) ?_ _ ((6100 - l3.toInt).toNat) _ (by omega) ⟨rfl, rfl, rfl, h3.1, by show l3.toInt ≤ 6020; omega, rfl⟩
  rintro d R ⟨m2, m4, m6, m7, m9, m11, m12, v⟩ ⟨q1, q2, q3, q4, q5, q6⟩ ih
  dsimp only at q1 q2 q3 q4 q5 q6 ih ⊢
  subst q1 q2 q3
  unfold B_figures_210
  refine wp_if.mpr ⟨fun _ => wp_if.mpr ⟨fun _ => wp_if.mpr ⟨fun _ => wp_if.mpr ⟨fun _ => e_fig324 h8 h7, fun _ => e_fig325 h8 h7⟩, fun _ => e_fig324 h8 h7⟩, fun _ => e_fig333 h8 h7⟩, fun c => ?_⟩
  have c1 := Int32.lt_iff_toInt_lt.mp (Int32.not_le.mp c)
  have el : (m12 + 1).toInt = m12.toInt + 1 := by rw [tI_add (by rw [e1]; omega) (by rw [e1]; omega), e1]
  rw [wp_bn]
  refine wp_mono (x_see ht q4) (fun r w hw => ?_)
  obtain ⟨rfl, -⟩ := hw
  have n267 : ∀ (s a : Int32), wp (B_figures_267 N R m2 m4 m6 m7 m9 m12 a s w) (fun r z => CTq w z ∧ 0 ≤ r.toInt ∧ r.toInt ≤ 6010) := by
    intro s a
    have n294 : ∀ y : Int64, wp (B_figures_294 N R m2 m4 m6 m7 s m12 y w) (fun r z => CTq w z ∧ 0 ≤ r.toInt ∧ r.toInt ≤ 6010) := by
      intro y
      unfold B_figures_294
      exact ih ((6100 - (m12 + 1).toInt).toNat) _ (by omega) ⟨rfl, rfl, rfl, by show 0 ≤ (m12 + 1).toInt; omega, by show (m12 + 1).toInt ≤ 6020; omega, rfl⟩
    unfold B_figures_267
    exact wp_if.mpr ⟨fun _ => n294 _, fun _ => n294 _⟩
  have n262 : ∀ a : Int32, wp (B_figures_262 N R m2 m4 m6 m7 m9 m12 a w) (fun r z => CTq w z ∧ 0 ≤ r.toInt ∧ r.toInt ≤ 6010) := fun a => by unfold B_figures_262; exact n267 _ _
  have n266 : ∀ a : Int32, wp (B_figures_266 N R m2 m4 m6 m7 m9 m12 a w) (fun r z => CTq w z ∧ 0 ≤ r.toInt ∧ r.toInt ≤ 6010) := fun a => by unfold B_figures_266; exact n267 _ _
  repeat' (first | exact n262 _ | exact n266 _ | exact n267 _ _ | refine wp_if.mpr ⟨fun _ => ?_, fun _ => ?_⟩)
theorem x_figures (hN : 5000000000 ≤ N) (ht : TPq u) (h1 : 0 ≤ l1.toInt ∧ l1.toInt ≤ 6000) (h8 : vp_in (u.1 8) 1502) : wp (F_figures N l1 u) (fun r w => CTq u w ∧ 0 ≤ r.toInt ∧ r.toInt ≤ 6010) := by
  have e1 : (1 : Int32).toInt = 1 := by decide
  have e2 : (2 : Int32).toInt = 2 := by decide
  have e39 : ∀ s l : Int32, 0 ≤ l.toInt → l.toInt ≤ 6002 → wp (B_figures_39 N s l u) (fun r w => CTq u w ∧ 0 ≤ r.toInt ∧ r.toInt ≤ 6010) := by
    intro s l hl0 hl1
    unfold B_figures_39 LP_figures_43
    refine wp_lp (fun (d : Nat) (x : Int32 × Int32 × Int32 × RSt) => x.2.1 = l ∧ x.2.2.2 = u ∧ 0 ≤ x.2.2.1.toInt ∧ x.2.2.1.toInt ≤ 6002 ∧ d = (6002 - x.2.2.1.toInt).toNat) ?_ _ ((6002 - l.toInt).toNat) _ (by omega) ⟨rfl, rfl, hl0, hl1, rfl⟩
    rintro d R ⟨m2, m3, m4, v⟩ ⟨q1, q2, q3, q4, q5⟩ ih
    dsimp only at q1 q2 q3 q4 q5 ih ⊢
    subst q1 q2
    have on : ¬ seV v m4 = -1 → wp (B_figures_75 N R m2 m3 m4 v) (fun r w => CTq v w ∧ 0 ≤ r.toInt ∧ r.toInt ≤ 6010) := by
      intro hs
      have := seV_in hs
      have := ht.2
      have el : (m4 + 1).toInt = m4.toInt + 1 := by rw [tI_add (by rw [e1]; omega) (by rw [e1]; omega), e1]
      unfold B_figures_75
      exact ih ((6002 - (m4 + 1).toInt).toNat) _ (by omega) ⟨rfl, rfl, by show 0 ≤ (m4 + 1).toInt; omega, by show (m4 + 1).toInt ≤ 6002; omega, rfl⟩
    have e81 : wp (B_figures_81 N m2 m3 m4 v) (fun r w => CTq v w ∧ 0 ≤ r.toInt ∧ r.toInt ≤ 6010) := by
      unfold B_figures_81
      rw [wp_bn]
      refine wp_mono (x_see ht q3) (fun r w hw => ?_)
      obtain ⟨rfl, -⟩ := hw
      have e119 : ∀ b s : Int32, 0 ≤ s.toInt → s.toInt ≤ 6010 → wp (B_figures_119 N m2 m3 m4 (m4 - m3) b s w) (fun r z => CTq w z ∧ 0 ≤ r.toInt ∧ r.toInt ≤ 6010) := by
        intro b s hs0 hs1
        have e190 : wp (B_figures_190 N m2 m3 m4 b s w) (fun r z => CTq w z ∧ 0 ≤ r.toInt ∧ r.toInt ≤ 6010) := by
          unfold B_figures_190
          exact e_fig191 hN ht h8 ⟨hs0, hs1⟩ ⟨hl0, by omega⟩ (by omega)
        have e159 : ∀ c d : Int32, wp (B_figures_159 N m2 m3 m4 b s c d w) (fun r z => CTq w z ∧ 0 ≤ r.toInt ∧ r.toInt ≤ 6010) := by
          intro c d
          unfold B_figures_159
          refine wp_if.mpr ⟨fun _ => e190, fun _ => ?_⟩
          rw [wp_bn]
          refine wp_mono (x_see ht hs0) (fun r w2 hw => ?_)
          obtain ⟨rfl, -⟩ := hw
          refine wp_if.mpr ⟨fun _ => ?_, fun _ => e190⟩
          rw [wp_bn]
          refine wp_mono (x_see ht hs0) (fun r w3 hw => ?_)
          obtain ⟨rfl, -⟩ := hw
          exact wp_if.mpr ⟨fun _ => e_fig191 hN ht h8 ⟨hs0, hs1⟩ ⟨hl0, by omega⟩ (by omega), fun _ => e190⟩
        unfold B_figures_119
        exact wp_if.mpr ⟨fun _ => e190, fun _ => wp_if.mpr ⟨fun _ => wp_if.mpr ⟨fun _ => e159 _ _, fun _ => e159 _ _⟩, fun _ => wp_if.mpr ⟨fun _ => e159 _ _, fun _ => e159 _ _⟩⟩⟩
      have e103 : ∀ s : Int32, wp (B_figures_103 N m2 m3 m4 (m4 - m3) s w) (fun r z => CTq w z ∧ 0 ≤ r.toInt ∧ r.toInt ≤ 6010) := by
        intro s
        have el : (m4 + 1).toInt = m4.toInt + 1 := by rw [tI_add (by rw [e1]; omega) (by rw [e1]; omega), e1]
        unfold B_figures_103
        exact wp_if.mpr ⟨fun _ => e119 _ _ q3 (by omega), fun _ => e119 _ _ (by omega) (by omega)⟩
      exact wp_if.mpr ⟨fun _ => e103 1, fun _ => e103 0⟩
    unfold B_figures_43
    refine wp_if.mpr ⟨fun _ => ?_, fun _ => ?_⟩
    · rw [wp_bn]
      refine wp_mono (x_see ht q3) (fun r w hw => ?_)
      obtain ⟨rfl, rfl⟩ := hw
      exact wp_if.mpr ⟨fun _ => e81, fun c => on (fun z => c (by rw [z]; exact dig_1))⟩
    · rw [wp_bn]
      refine wp_mono (x_see ht q3) (fun r w hw => ?_)
      obtain ⟨rfl, rfl⟩ := hw
      exact wp_if.mpr ⟨fun _ => e81, fun c => on (fun z => c (by rw [z]; exact hex_1))⟩
  have el2 : (l1 + 2).toInt = l1.toInt + 2 := by rw [tI_add (by rw [e2]; omega) (by rw [e2]; omega), e2]
  have el1 : (l1 + 1).toInt = l1.toInt + 1 := by rw [tI_add (by rw [e1]; omega) (by rw [e1]; omega), e1]
  have e27 : ∀ s : Int32, wp (B_figures_27 N l1 s u) (fun r w => CTq u w ∧ 0 ≤ r.toInt ∧ r.toInt ≤ 6010) := by
    intro s
    unfold B_figures_27
    exact wp_if.mpr ⟨fun _ => e39 _ _ h1.1 (by omega), fun _ => e39 _ _ (by omega) (by omega)⟩
  have e26 : wp (B_figures_26 N l1 u) (fun r w => CTq u w ∧ 0 ≤ r.toInt ∧ r.toInt ≤ 6010) := by unfold B_figures_26; exact e27 0
  unfold F_figures B_figures_0
  rw [wp_bn]
  refine wp_mono (x_see ht h1.1) (fun r w hw => ?_)
  obtain ⟨rfl, -⟩ := hw
  refine wp_if.mpr ⟨fun _ => ?_, fun _ => e26⟩
  rw [wp_bn]
  refine wp_mono (x_see ht (by omega)) (fun r w2 hw => ?_)
  obtain ⟨rfl, -⟩ := hw
  exact wp_if.mpr ⟨fun _ => e27 1, fun _ => e26⟩
end RTok
