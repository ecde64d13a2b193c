/-! Class and reference answer alike: work, tell. -/
theorem kin_0 {k : Int32} : n_isKind k = r_in k 0 4 := rfl
theorem kin_1 {k : Int32} (h : ¬ r_in k 0 4 = 0) : ¬ k < 0 ∧ ¬ 4 < k := ⟨fun z => h (rin_0.mpr (Or.inl z)), fun z => h (rin_0.mpr (Or.inr z))⟩
theorem areK_bad {N : Nat} {a b x : Int32} {u : RSt} (h : r_in a 0 4 = 0 ∨ r_in b 0 4 = 0 ∨ x = 0) : F_areKinds N a b x u = some (0, sI u 9 1) := by
  unfold F_areKinds B_areKinds_0 B_areKinds_27 B_areKinds_28
  by_cases h1 : r_in a 0 4 = 0
  · rw [if_pos h1]; rfl
  · rw [if_neg h1]
    by_cases h2 : r_in b 0 4 = 0
    · rw [if_pos h2]; rfl
    · rw [if_neg h2]
      rw [if_pos (h.elim (fun z => absurd z h1) (fun z => z.elim (fun z => absurd z h2) id))]; rfl
theorem areK_good {N : Nat} {a b x : Int32} {u : RSt} (h1 : ¬ r_in a 0 4 = 0) (h2 : ¬ r_in b 0 4 = 0) (h3 : ¬ x = 0) : F_areKinds N a b x u = some (1, sI u 9 0) := by
  unfold F_areKinds B_areKinds_0 B_areKinds_27 B_areKinds_28
  rw [if_neg h1, if_neg h2, if_neg h3]; rfl
theorem le_10 {x n : Int32} : ¬ x ≤ n ↔ n < x := Int32.not_le
theorem w195 {N : Nat} {k T s0 : Int32} {a b r : Int64} {u w : RSt} (h0 : u.1 9 = 0) (h : B_work_195 N k T a b s0 u = some (r, w)) : r = r_cut k (r_two T s0 a b) ∧ w = u := by
  have h3 : wp (B_work_195 N k T a b s0 u) (fun y z => y = r ∧ z = w) := ⟨r, w, h, rfl, rfl⟩
  unfold B_work_195 at h3
  rw [if_pos (by rw [h0]; decide)] at h3
  have h4 := wp_some.mp (wp_ok.mp h3).2
  exact ⟨h4.1.symm, h4.2.symm⟩
theorem w174 {N : Nat} {o k q T : Int32} {a b r : Int64} {u w : RSt} (h0 : u.1 9 = 0) (h : B_work_174 N o k q T a b u = some (r, w)) : r = r_cut k (r_two T (n_wide o k q) a b) ∧ w = u := by
  unfold B_work_174 B_work_190 B_work_194 at h
  unfold n_wide
  by_cases h1 : k = 4
  · rw [if_pos h1] at h ⊢
    exact w195 h0 h
  · rw [if_neg h1] at h ⊢
    by_cases h2 : 8 ≤ o
    · rw [if_pos h2] at h ⊢
      exact w195 h0 h
    · rw [if_neg h2] at h ⊢
      by_cases h3 : q = 4
      · rw [if_pos h3] at h ⊢
        exact w195 h0 h
      · rw [if_neg h3] at h ⊢
        exact w195 h0 h
theorem w195z {N : Nat} {k T s0 : Int32} {a b r : Int64} {u w : RSt} (h0 : u.1 9 = 2) (h : B_work_195 N k T a b s0 u = some (r, w)) : w = u := by
  unfold B_work_195 at h
  rw [if_neg (by rw [h0]; decide)] at h
  exact (fst_some h).2.symm
theorem w174z {N : Nat} {o k q T : Int32} {a b r : Int64} {u w : RSt} (h0 : u.1 9 = 2) (h : B_work_174 N o k q T a b u = some (r, w)) : w = u := by
  unfold B_work_174 B_work_190 B_work_194 at h
  by_cases h1 : k = 4
  · rw [if_pos h1] at h
    exact w195z h0 h
  · rw [if_neg h1] at h
    by_cases h2 : 8 ≤ o
    · rw [if_pos h2] at h
      exact w195z h0 h
    · rw [if_neg h2] at h
      by_cases h3 : q = 4
      · rw [if_pos h3] at h
        exact w195z h0 h
      · rw [if_neg h3] at h
        exact w195z h0 h
theorem w134 {N : Nat} {o k q T : Int32} {a b r : Int64} {u w : RSt} (h0 : u.1 9 = 0) (h : B_work_134 N o k q a b T u = some (r, w)) : (((o = 3 ∨ o = 4) ∧ n_cut q b = 0) ∧ w.1 9 = 2) ∨ (¬ ((o = 3 ∨ o = 4) ∧ n_cut q b = 0) ∧ r = r_cut k (r_two T (n_wide o k q) (r_cut k a) (r_cut q b)) ∧ w.1 9 = 0) := by
  unfold B_work_134 at h
  have e62 : (o = 3 ∨ o = 4) → B_work_162 N o k q T (r_cut k a) (r_cut q b) u = some (r, w) → (((o = 3 ∨ o = 4) ∧ n_cut q b = 0) ∧ w.1 9 = 2) ∨ (¬ ((o = 3 ∨ o = 4) ∧ n_cut q b = 0) ∧ r = r_cut k (r_two T (n_wide o k q) (r_cut k a) (r_cut q b)) ∧ w.1 9 = 0) := by
    intro ho h
    unfold B_work_162 at h
    by_cases hz : r_cut q b = 0
    · rw [if_pos hz] at h
      have h5 : B_work_174 N o k q T (r_cut k a) (r_cut q b) (sI u 9 2) = some (r, w) := h
      have h6 := w174z rfl h5
      exact Or.inl ⟨⟨ho, by rw [← q_cut]; exact hz⟩, by rw [h6]; rfl⟩
    · rw [if_neg hz] at h
      obtain ⟨h6, h7⟩ := w174 h0 h
      exact Or.inr ⟨fun z => hz (by rw [q_cut]; exact z.2), h6, by rw [h7]; exact h0⟩
  by_cases h3 : o = 3
  · rw [if_pos h3] at h
    exact e62 (Or.inl h3) h
  · rw [if_neg h3] at h
    by_cases h4 : o = 4
    · rw [if_pos h4] at h
      exact e62 (Or.inr h4) h
    · rw [if_neg h4] at h
      obtain ⟨h6, h7⟩ := w174 h0 h
      exact Or.inr ⟨fun z => z.1.elim h3 h4, h6, by rw [h7]; exact h0⟩
theorem wide_same {o k q : Int32} {a b : Int64} (h0 : ¬ o < 0) (h1 : ¬ 10 < o) (k0 : ¬ k < 0) (k1 : ¬ 4 < k) (q0 : ¬ q < 0) (q1 : ¬ 4 < q) (hz : ¬ ((o = 3 ∨ o = 4) ∧ n_cut q b = 0)) : n_cut k (n_combine o (n_wide o k q) (n_cut k a) (n_cut q b)) = n_cut k (r_two (q_sign o) (n_wide o k q) (n_cut k a) (n_cut q b)) := by
  unfold n_wide
  by_cases c1 : k = 4
  · rw [if_pos c1]
    exact qx_w1 h0 h1 hz rfl
  · rw [if_neg c1]
    by_cases c2 : 8 ≤ o
    · rw [if_pos c2]
      exact qx_w0 h0 h1 k0 k1 c1 q0 q1 (fun z => absurd z (Int32.not_lt.mpr c2)) hz rfl
    · rw [if_neg c2]
      by_cases c3 : q = 4
      · rw [if_pos c3]
        exact qx_w1 h0 h1 hz rfl
      · rw [if_neg c3]
        exact qx_w0 h0 h1 k0 k1 c1 q0 q1 (fun _ => c3) hz rfl
theorem n_div {o : Int32} : n_divides o = 0 ↔ ¬ (o = 3 ∨ o = 4) := by
  unfold n_divides
  by_cases h : o = 3 ∨ o = 4
  · rw [if_pos h]; exact ⟨fun z => absurd z (by decide), fun z => absurd h z⟩
  · rw [if_neg h]; exact ⟨fun _ => h, fun _ => rfl⟩
theorem work_sign {N : Nat} {o k q r9 : Int32} {a b : Int64} {u : RSt} (h0 : ¬ o < 0) (h1 : ¬ 10 < o) : (if o = (0 : Int32) then (B_work_134 N o k q a b 240 u) else (if o = (1 : Int32) then (B_work_134 N o k q a b 241 u) else (if o = (2 : Int32) then (B_work_134 N o k q a b 242 u) else (if o = (3 : Int32) then (B_work_134 N o k q a b 243 u) else (if o = (4 : Int32) then (B_work_134 N o k q a b 244 u) else (if o = (5 : Int32) then (B_work_134 N o k q a b 237 u) else (if o = (6 : Int32) then (B_work_134 N o k q a b 235 u) else (if o = (7 : Int32) then (B_work_134 N o k q a b 236 u) else (if o = (8 : Int32) then (B_work_134 N o k q a b 221 u) else (if o = (9 : Int32) then (B_work_134 N o k q a b 222 u) else (B_work_134 N o k q a b 203 u))))))))))) = B_work_134 N o k q a b (q_sign o) u := by
  unfold q_sign
  by_cases c0 : o = 0
  · rw [if_pos c0, if_pos c0]
  by_cases c1 : o = 1
  · rw [if_neg c0, if_pos c1, if_neg c0, if_pos c1]
  by_cases c2 : o = 2
  · rw [if_neg c0, if_neg c1, if_pos c2, if_neg c0, if_neg c1, if_pos c2]
  by_cases c3 : o = 3
  · rw [if_neg c0, if_neg c1, if_neg c2, if_pos c3, if_neg c0, if_neg c1, if_neg c2, if_pos c3]
  by_cases c4 : o = 4
  · rw [if_neg c0, if_neg c1, if_neg c2, if_neg c3, if_pos c4, if_neg c0, if_neg c1, if_neg c2, if_neg c3, if_pos c4]
  by_cases c5 : o = 5
  · rw [if_neg c0, if_neg c1, if_neg c2, if_neg c3, if_neg c4, if_pos c5, if_neg c0, if_neg c1, if_neg c2, if_neg c3, if_neg c4, if_pos c5]
  by_cases c6 : o = 6
  · rw [if_neg c0, if_neg c1, if_neg c2, if_neg c3, if_neg c4, if_neg c5, if_pos c6, if_neg c0, if_neg c1, if_neg c2, if_neg c3, if_neg c4, if_neg c5, if_pos c6]
  by_cases c7 : o = 7
  · rw [if_neg c0, if_neg c1, if_neg c2, if_neg c3, if_neg c4, if_neg c5, if_neg c6, if_pos c7, if_neg c0, if_neg c1, if_neg c2, if_neg c3, if_neg c4, if_neg c5, if_neg c6, if_pos c7]
  by_cases c8 : o = 8
  · rw [if_neg c0, if_neg c1, if_neg c2, if_neg c3, if_neg c4, if_neg c5, if_neg c6, if_neg c7, if_pos c8, if_neg c0, if_neg c1, if_neg c2, if_neg c3, if_neg c4, if_neg c5, if_neg c6, if_neg c7, if_pos c8]
  by_cases c9 : o = 9
  · rw [if_neg c0, if_neg c1, if_neg c2, if_neg c3, if_neg c4, if_neg c5, if_neg c6, if_neg c7, if_neg c8, if_pos c9, if_neg c0, if_neg c1, if_neg c2, if_neg c3, if_neg c4, if_neg c5, if_neg c6, if_neg c7, if_neg c8, if_pos c9]
  rw [if_neg c0, if_neg c1, if_neg c2, if_neg c3, if_neg c4, if_neg c5, if_neg c6, if_neg c7, if_neg c8, if_neg c9, if_neg c0, if_neg c1, if_neg c2, if_neg c3, if_neg c4, if_neg c5, if_neg c6, if_neg c7, if_neg c8, if_neg c9]
/-- work: class and reference answer alike -/
theorem work_same {N M : Nat} {l1 l2 l3 : Int32} {l4 l6 r : Int64} {u w : RSt} {v c : CSt} {y : Sum Nat Int64} (h : F_work N l1 l2 l3 l4 l6 u = some (r, w)) (hc : F_X11_work M l1 l2 l3 l4 l6 v = some (y, c)) : (y = .inl 1 ∧ w.1 9 = 1) ∨ (y = .inl 5 ∧ w.1 9 = 2) ∨ (y = .inr r ∧ w.1 9 = 0) := by
  unfold F_work B_work_0 at h
  unfold F_X11_work B_X11_work_0 at hc
  rw [kin_0, kin_0] at hc
  by_cases k2 : r_in l2 0 4 = 0
  · rw [areK_bad (Or.inl k2)] at h
    have h2 : some ((0 : Int64), sI u 9 1) = some (r, w) := h
    rw [if_pos k2] at hc
    exact Or.inl ⟨(fst_some hc).1.symm, by rw [← (fst_some h2).2]; rfl⟩
  rw [if_neg k2] at hc
  by_cases k3 : r_in l3 0 4 = 0
  · rw [areK_bad (Or.inr (Or.inl k3))] at h
    have h2 : some ((0 : Int64), sI u 9 1) = some (r, w) := h
    rw [if_pos k3] at hc
    exact Or.inl ⟨(fst_some hc).1.symm, by rw [← (fst_some h2).2]; rfl⟩
  rw [if_neg k3] at hc
  by_cases k1 : r_in l1 0 10 = 0
  · rw [areK_bad (Or.inr (Or.inr k1))] at h
    have h2 : some ((0 : Int64), sI u 9 1) = some (r, w) := h
    refine Or.inl ⟨?_, by rw [← (fst_some h2).2]; rfl⟩
    rcases rin_0.mp k1 with a | a
    · rw [if_pos a] at hc
      exact (fst_some hc).1.symm
    · by_cases b : l1 < 0
      · rw [if_pos b] at hc
        exact (fst_some hc).1.symm
      · rw [if_neg b, if_neg (Int32.not_le.mpr a)] at hc
        exact (fst_some hc).1.symm
  have a0 : ¬ l1 < 0 := fun z => k1 (rin_0.mpr (Or.inl z))
  have a1 : ¬ 10 < l1 := fun z => k1 (rin_0.mpr (Or.inr z))
  rw [if_neg a0, if_pos (Int32.not_lt.mp a1)] at hc
  rw [areK_good k2 k3 k1] at h
  have h1 : B_work_134 N l1 l2 l3 l4 l6 (q_sign l1) (sI u 9 0) = some (r, w) := (work_sign (r9 := 0) a0 a1).symm.trans h
  rcases w134 rfl h1 with ⟨hz, hw⟩ | ⟨hz, hr, hw⟩
  · rw [if_pos hz.2, if_neg (fun z => n_div.mp z hz.1)] at hc
    exact Or.inr (Or.inl ⟨(fst_some hc).1.symm, hw⟩)
  · refine Or.inr (Or.inr ⟨?_, hw⟩)
    have e : n_cut l2 (n_combine l1 (n_wide l1 l2 l3) (n_cut l2 l4) (n_cut l3 l6)) = r := by
      rw [hr, q_cut, q_cut, q_cut]
      exact wide_same a0 a1 (kin_1 k2).1 (kin_1 k2).2 (kin_1 k3).1 (kin_1 k3).2 hz
    have e68 : B_X11_work_68 M l1 l2 l3 l4 (n_cut l3 l6) v = some (.inr r, v) := by
      unfold B_X11_work_68
      rw [e]
    by_cases z : n_cut l3 l6 = 0
    · rw [if_pos z, if_pos (n_div.mpr (fun q => hz ⟨q, z⟩)), e68] at hc
      exact (fst_some hc).1.symm
    · rw [if_neg z, e68] at hc
      exact (fst_some hc).1.symm
theorem t109 {N : Nat} {a b r : Int64} {s0 : Int32} {u w : RSt} (h : B_tell_109 N a b s0 u = some (r, w)) : r = r_two s0 1 a b ∧ w = u := by
  have h3 : wp (B_tell_109 N a b s0 u) (fun y z => y = r ∧ z = w) := ⟨r, w, h, rfl, rfl⟩
  unfold B_tell_109 at h3
  have h4 := wp_some.mp (wp_ok.mp h3).2
  exact ⟨h4.1.symm, h4.2.symm⟩
theorem t44 {N : Nat} {o : Int32} {s0 : Int32} {a b r : Int64} {u w : RSt} (h0 : ¬ o < 0) (h1 : ¬ 16 < o) (hs : s0 = 0 ∨ s0 = 1) (hI : s0 = 0 → q_I a) (h : B_tell_44 N o a b s0 u = some (r, w)) : r = n_apply o s0 a b ∧ w = u := by
  unfold B_tell_44 at h
  by_cases c6 : 6 ≤ o
  · rw [if_pos c6] at h
    by_cases c8 : 8 ≤ o
    · rw [if_pos c8] at h
      by_cases c10 : 10 ≤ o
      · rw [if_pos c10] at h
        by_cases d10 : o = 10
        · rw [if_pos d10] at h
          exact ⟨(fst_some h).1.symm.trans (qx_d d10).symm, (fst_some h).2.symm⟩
        · rw [if_neg d10] at h
          by_cases c14 : 14 ≤ o
          · rw [if_pos c14] at h
            by_cases d14 : o = 14
            · rw [if_pos d14] at h
              refine ⟨(fst_some h).1.symm.trans ?_, (fst_some h).2.symm⟩
              rcases hs with rfl | rfl
              · exact (qx_f0 d14).symm
              · exact (qx_f1 d14).symm
            · rw [if_neg d14] at h
              by_cases d15 : o = 15
              · rw [if_pos d15] at h
                refine ⟨(fst_some h).1.symm.trans ?_, (fst_some h).2.symm⟩
                rcases hs with rfl | rfl
                · exact (qx_g0 d15 (hI rfl)).symm
                · exact (qx_g1 d15).symm
              · rw [if_neg d15] at h
                have d16 := qx_16 c14 h1 d14 d15
                by_cases z : a = 0
                · rw [if_pos z] at h
                  exact ⟨(fst_some h).1.symm.trans (qx_h1 d16 hs z).symm, (fst_some h).2.symm⟩
                · rw [if_neg z] at h
                  exact ⟨(fst_some h).1.symm.trans (qx_h0 d16 hs z).symm, (fst_some h).2.symm⟩
          · rw [if_neg c14] at h
            exact ⟨(fst_some h).1.symm.trans (qx_e c10 d10 c14).symm, (fst_some h).2.symm⟩
      · rw [if_neg c10] at h
        refine ⟨(fst_some h).1.symm.trans ?_, (fst_some h).2.symm⟩
        rcases hs with rfl | rfl
        · exact (qx_c0 c8 c10).symm
        · exact (qx_c1 c8 c10).symm
    · rw [if_neg c8] at h
      exact ⟨(fst_some h).1.symm.trans (qx_b c6 c8).symm, (fst_some h).2.symm⟩
  · rw [if_neg c6] at h
    by_cases d0 : o = 0
    · rw [if_pos d0] at h
      exact ⟨(t109 h).1.trans (qx_a h0 c6 (by rw [d0]; decide)).symm, (t109 h).2⟩
    rw [if_neg d0] at h
    by_cases d1 : o = 1
    · rw [if_pos d1] at h
      exact ⟨(t109 h).1.trans (qx_a h0 c6 (by rw [d1]; decide)).symm, (t109 h).2⟩
    rw [if_neg d1] at h
    by_cases d2 : o = 2
    · rw [if_pos d2] at h
      exact ⟨(t109 h).1.trans (qx_a h0 c6 (by rw [d2]; decide)).symm, (t109 h).2⟩
    rw [if_neg d2] at h
    by_cases d3 : o = 3
    · rw [if_pos d3] at h
      exact ⟨(t109 h).1.trans (qx_a h0 c6 (by rw [d3]; decide)).symm, (t109 h).2⟩
    rw [if_neg d3] at h
    by_cases d4 : o = 4
    · rw [if_pos d4] at h
      exact ⟨(t109 h).1.trans (qx_a h0 c6 (by rw [d4]; decide)).symm, (t109 h).2⟩
    rw [if_neg d4] at h
    exact ⟨(t109 h).1.trans (qx_a h0 c6 (by unfold q_cmp; rw [if_neg d0, if_neg d1, if_neg d2, if_neg d3, if_neg d4])).symm, (t109 h).2⟩
/-- tell: class and reference answer alike -/
theorem tell_same {N M : Nat} {l1 l2 l3 : Int32} {l4 l6 r : Int64} {u w : RSt} {v c : CSt} {y : Sum Nat Int64} (h : F_tell N l1 l2 l3 l4 l6 u = some (r, w)) (hc : F_X11_tell M l1 l2 l3 l4 l6 v = some (y, c)) : (y = .inl 1 ∧ w.1 9 = 1) ∨ (y = .inr r ∧ w.1 9 = 0) := by
  unfold F_tell B_tell_0 at h
  unfold F_X11_tell B_X11_tell_0 at hc
  rw [kin_0, kin_0] at hc
  by_cases k2 : r_in l2 0 4 = 0
  · rw [areK_bad (Or.inl k2)] at h
    have h2 : some ((0 : Int64), sI u 9 1) = some (r, w) := h
    rw [if_pos k2] at hc
    exact Or.inl ⟨(fst_some hc).1.symm, by rw [← (fst_some h2).2]; rfl⟩
  rw [if_neg k2] at hc
  by_cases k3 : r_in l3 0 4 = 0
  · rw [areK_bad (Or.inr (Or.inl k3))] at h
    have h2 : some ((0 : Int64), sI u 9 1) = some (r, w) := h
    rw [if_pos k3] at hc
    exact Or.inl ⟨(fst_some hc).1.symm, by rw [← (fst_some h2).2]; rfl⟩
  rw [if_neg k3] at hc
  by_cases k1 : r_in l1 0 16 = 0
  · rw [areK_bad (Or.inr (Or.inr k1))] at h
    have h2 : some ((0 : Int64), sI u 9 1) = some (r, w) := h
    refine Or.inl ⟨?_, by rw [← (fst_some h2).2]; rfl⟩
    rcases rin_0.mp k1 with a | a
    · rw [if_pos a] at hc
      exact (fst_some hc).1.symm
    · by_cases b : l1 < 0
      · rw [if_pos b] at hc
        exact (fst_some hc).1.symm
      · rw [if_neg b, if_neg (Int32.not_le.mpr a)] at hc
        exact (fst_some hc).1.symm
  have a0 : ¬ l1 < 0 := fun z => k1 (rin_0.mpr (Or.inl z))
  have a1 : ¬ 16 < l1 := fun z => k1 (rin_0.mpr (Or.inr z))
  rw [if_neg a0, if_pos (Int32.not_lt.mp a1)] at hc
  rw [areK_good k2 k3 k1] at h
  right
  have h1 : (if l2 = (4 : Int32) then (B_tell_44 N l1 (r_cut l2 l4) (r_cut l3 l6) 1 (sI u 9 0)) else (B_tell_44 N l1 (r_cut l2 l4) (r_cut l3 l6) 0 (sI u 9 0))) = some (r, w) := h
  rw [q_cut, q_cut] at h1
  unfold B_X11_tell_46 at hc
  by_cases e : l2 = 4
  · rw [if_pos e] at h1 hc
    obtain ⟨h2, h3⟩ := t44 a0 a1 (Or.inr rfl) (fun z => absurd z (by decide)) h1
    exact ⟨by rw [h2]; exact (fst_some hc).1.symm, by rw [h3]; rfl⟩
  · rw [if_neg e] at h1 hc
    obtain ⟨h2, h3⟩ := t44 a0 a1 (Or.inl rfl) (fun _ => qx_Icut (kin_1 k2).1 (kin_1 k2).2 e l4) h1
    exact ⟨by rw [h2]; exact (fst_some hc).1.symm, by rw [h3]; rfl⟩
