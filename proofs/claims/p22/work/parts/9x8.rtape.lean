/-! The tape: class and reference hold as many bytes. -/
section RTape
variable {N M n : Nat} {l1 l2 l3 l4 l5 l6 l7 x r y : Int32}
theorem ap_step {u w : CSt} (hx : ¬ x < 0) (hc : ¬ (6000 : Int32) ≤ cI u 0) (h : LP_X11_append_3 N (n + 1) (l1, x, u) = some (r, w)) : ∃ u1, LP_X11_append_3 N n (l1, x + (-8), u1) = some (r, w) ∧ u1.1 0 = u.1 0 + 1 := by
  have h1 : B_X11_append_3 N (LP_X11_append_3 N n) l1 x u = some (r, w) := h
  unfold B_X11_append_3 at h1
  rw [if_neg hx, if_neg hc] at h1
  have q := (wq_wc.mp (⟨r, w, h1, rfl, rfl⟩ : wq _ (fun a b => a = r ∧ b = w))).2
  obtain ⟨r1, w1, e1, rfl, rfl⟩ := q
  exact ⟨_, e1, rfl⟩
theorem ap_end {u w : CSt} (hx : x < 0) (h : LP_X11_append_3 N (n + 1) (l1, x, u) = some (r, w)) : w = u := by
  have h1 : B_X11_append_3 N (LP_X11_append_3 N n) l1 x u = some (r, w) := h
  unfold B_X11_append_3 at h1
  rw [if_pos hx] at h1
  exact (fst_some h1).2.symm
theorem nle_6 {a : Int32} (h : a.toInt < 6000) : ¬ (6000 : Int32) ≤ a := by
  intro q
  have q := Int32.le_iff_toInt_le.mp q
  have e : (6000 : Int32).toInt = 6000 := rfl
  rw [e] at q
  omega
theorem up_1 {a b : Int32} (h : b = a + 1) (h0 : 0 ≤ a.toInt) (h1 : a.toInt ≤ 7000) : b.toInt = a.toInt + 1 := by
  have e : (1 : Int32).toInt = 1 := rfl
  rw [h, tI_add (by rw [e]; omega) (by rw [e]; omega), e]
theorem ap_all {u w : CSt} (hN : 5 ≤ N) (h0 : 0 ≤ (u.1 0).toInt) (h1 : (u.1 0).toInt + 4 ≤ 6000) (h : F_X11_append N l1 u = some (r, w)) : w.1 0 = u.1 0 + 1 + 1 + 1 + 1 := by
  obtain ⟨n, rfl⟩ : ∃ n, N = n + 5 := ⟨N - 5, by omega⟩
  have g : LP_X11_append_3 (n + 5) (n + 4 + 1) (l1, 24, u) = some (r, w) := h
  obtain ⟨a, g, ea⟩ := ap_step (by decide) (nle_6 (by show (u.1 0).toInt < 6000; omega)) g
  have ia := up_1 ea h0 (by omega)
  have g : LP_X11_append_3 (n + 5) (n + 3 + 1) (l1, 24 + (-8), a) = some (r, w) := g
  obtain ⟨b, g, eb⟩ := ap_step (by decide) (nle_6 (by show (a.1 0).toInt < 6000; omega)) g
  have ib := up_1 eb (by omega) (by omega)
  have g : LP_X11_append_3 (n + 5) (n + 2 + 1) (l1, 24 + (-8) + (-8), b) = some (r, w) := g
  obtain ⟨c, g, ec⟩ := ap_step (by decide) (nle_6 (by show (b.1 0).toInt < 6000; omega)) g
  have ic := up_1 ec (by omega) (by omega)
  have g : LP_X11_append_3 (n + 5) (n + 1 + 1) (l1, 24 + (-8) + (-8) + (-8), c) = some (r, w) := g
  obtain ⟨d, g, ed⟩ := ap_step (by decide) (nle_6 (by show (c.1 0).toInt < 6000; omega)) g
  have g : LP_X11_append_3 (n + 5) (n + 0 + 1) (l1, 24 + (-8) + (-8) + (-8) + (-8), d) = some (r, w) := g
  rw [ap_end (by decide) g, ed, ec, eb, ea]
theorem fd_step {R : Int32 × Int32 × Int32 × Int32 × Int32 × Int32 × RSt → Option (Int32 × RSt)} {u w : RSt} (hx : ¬ x < 0) (h : LP_feed_77 N R (n + 1) (l1, l2, l3, l4, l5, l6, l7, x, u) = some (r, w)) : ∃ u1, LP_feed_77 N R n (l1, l2, l3, l4, l5, l6, l7, x + (-8), u1) = some (r, w) ∧ u1.1 1 = u.1 1 + 1 := by
  have h1 : B_feed_77 N R (LP_feed_77 N R n) l1 l2 l3 l4 l5 l6 l7 x u = some (r, w) := h
  unfold B_feed_77 at h1
  rw [if_neg hx] at h1
  have q := (wp_wr.mp (wp_pu.mp (⟨r, w, h1, rfl, rfl⟩ : wp _ (fun a b => a = r ∧ b = w)))).2
  obtain ⟨r1, w1, e1, rfl, rfl⟩ := q
  exact ⟨_, e1, rfl⟩
theorem fd_end {R : Int32 × Int32 × Int32 × Int32 × Int32 × Int32 × RSt → Option (Int32 × RSt)} {u w : RSt} (hx : x < 0) (h : LP_feed_77 N R (n + 1) (l1, l2, l3, l4, l5, l6, l7, x, u) = some (r, w)) : R (l1, l2, l3, l4, l5, l6 + 1, u) = some (r, w) := by
  have h1 : B_feed_77 N R (LP_feed_77 N R n) l1 l2 l3 l4 l5 l6 l7 x u = some (r, w) := h
  unfold B_feed_77 at h1
  rw [if_pos hx] at h1
  exact h1
theorem fd_4 {R : Int32 × Int32 × Int32 × Int32 × Int32 × Int32 × RSt → Option (Int32 × RSt)} {u w : RSt} (h : LP_feed_77 N R (n + 5) (l1, l2, l3, l4, l5, l6, l7, 24, u) = some (r, w)) : ∃ u1, R (l1, l2, l3, l4, l5, l6 + 1, u1) = some (r, w) ∧ u1.1 1 = u.1 1 + 1 + 1 + 1 + 1 := by
  have g : LP_feed_77 N R (n + 4 + 1) (l1, l2, l3, l4, l5, l6, l7, 24, u) = some (r, w) := h
  obtain ⟨a, g, ea⟩ := fd_step (by decide) g
  have g : LP_feed_77 N R (n + 3 + 1) (l1, l2, l3, l4, l5, l6, l7, 24 + (-8), a) = some (r, w) := g
  obtain ⟨b, g, eb⟩ := fd_step (by decide) g
  have g : LP_feed_77 N R (n + 2 + 1) (l1, l2, l3, l4, l5, l6, l7, 24 + (-8) + (-8), b) = some (r, w) := g
  obtain ⟨c, g, ec⟩ := fd_step (by decide) g
  have g : LP_feed_77 N R (n + 1 + 1) (l1, l2, l3, l4, l5, l6, l7, 24 + (-8) + (-8) + (-8), c) = some (r, w) := g
  obtain ⟨d, g, ed⟩ := fd_step (by decide) g
  have g : LP_feed_77 N R (n + 0 + 1) (l1, l2, l3, l4, l5, l6, l7, 24 + (-8) + (-8) + (-8) + (-8), d) = some (r, w) := g
  exact ⟨d, fd_end (by decide) g, by rw [ed, ec, eb, ea]⟩
theorem fo_step {u w : RSt} (hN : 5 ≤ N) (hx : ¬ (5 : Int32) ≤ x) (h : LP_feed_23 N (n + 1) (l1, l2, l3, l4, l5, x, u) = some (r, w)) : ∃ u1, LP_feed_23 N n (l1, l2, l3, l4, l5, x + 1, u1) = some (r, w) ∧ u1.1 1 = u.1 1 + 1 + 1 + 1 + 1 := by
  have h1 : B_feed_23 N (LP_feed_23 N n) l1 l2 l3 l4 l5 x u = some (r, w) := h
  unfold B_feed_23 at h1
  rw [if_neg hx] at h1
  have h2 : ∃ s, B_feed_71 N (LP_feed_23 N n) l1 l2 l3 l4 l5 x s u = some (r, w) := by
    by_cases c0 : x = 0
    · rw [if_pos c0] at h1; exact ⟨_, h1⟩
    rw [if_neg c0] at h1
    by_cases c1 : x = 1
    · rw [if_pos c1] at h1; exact ⟨_, h1⟩
    rw [if_neg c1] at h1
    by_cases c2 : x = 2
    · rw [if_pos c2] at h1; exact ⟨_, h1⟩
    rw [if_neg c2] at h1
    by_cases c3 : x = 3
    · rw [if_pos c3] at h1; exact ⟨_, h1⟩
    rw [if_neg c3] at h1
    exact ⟨_, h1⟩
  obtain ⟨s, h3⟩ := h2
  obtain ⟨k, rfl⟩ : ∃ k, N = k + 5 := ⟨N - 5, by omega⟩
  exact fd_4 h3
theorem fo_end {u w : RSt} (hx : (5 : Int32) ≤ x) (h : LP_feed_23 N (n + 1) (l1, l2, l3, l4, l5, x, u) = some (r, w)) : (1 : Int32) = r ∧ u = w := by
  have h1 : B_feed_23 N (LP_feed_23 N n) l1 l2 l3 l4 l5 x u = some (r, w) := h
  unfold B_feed_23 at h1
  rw [if_pos hx] at h1
  exact fst_some h1
theorem fo_all {u w : RSt} (hN : 6 ≤ N) (h : LP_feed_23 N N (l1, l2, l3, l4, l5, 0, u) = some (r, w)) : (1 : Int32) = r ∧ w.1 1 = u.1 1 + 1 + 1 + 1 + 1 + 1 + 1 + 1 + 1 + 1 + 1 + 1 + 1 + 1 + 1 + 1 + 1 + 1 + 1 + 1 + 1 := by
  obtain ⟨n, rfl⟩ : ∃ n, N = n + 6 := ⟨N - 6, by omega⟩
  have g : LP_feed_23 (n + 6) (n + 5 + 1) (l1, l2, l3, l4, l5, 0, u) = some (r, w) := h
  obtain ⟨a, g, ea⟩ := fo_step (by omega) (by decide) g
  have g : LP_feed_23 (n + 6) (n + 4 + 1) (l1, l2, l3, l4, l5, 0 + 1, a) = some (r, w) := g
  obtain ⟨b, g, eb⟩ := fo_step (by omega) (by decide) g
  have g : LP_feed_23 (n + 6) (n + 3 + 1) (l1, l2, l3, l4, l5, 0 + 1 + 1, b) = some (r, w) := g
  obtain ⟨c, g, ec⟩ := fo_step (by omega) (by decide) g
  have g : LP_feed_23 (n + 6) (n + 2 + 1) (l1, l2, l3, l4, l5, 0 + 1 + 1 + 1, c) = some (r, w) := g
  obtain ⟨d, g, ed⟩ := fo_step (by omega) (by decide) g
  have g : LP_feed_23 (n + 6) (n + 1 + 1) (l1, l2, l3, l4, l5, 0 + 1 + 1 + 1 + 1, d) = some (r, w) := g
  obtain ⟨k, g, ek⟩ := fo_step (by omega) (by decide) g
  have g : LP_feed_23 (n + 6) (n + 0 + 1) (l1, l2, l3, l4, l5, 0 + 1 + 1 + 1 + 1 + 1, k) = some (r, w) := g
  obtain ⟨h1, h2⟩ := fo_end (by decide) g
  exact ⟨h1, by rw [← h2, ek, ed, ec, eb, ea]⟩
theorem up_4 {a b : Int32} (h : b = a + 1 + 1 + 1 + 1) (h0 : 0 ≤ a.toInt) (h1 : a.toInt ≤ 6500) : b.toInt = a.toInt + 4 := by
  have e1 := up_1 (a := a) rfl h0 (by omega)
  have e2 := up_1 (a := a + 1) rfl (by omega) (by omega)
  have e3 := up_1 (a := a + 1 + 1) rfl (by omega) (by omega)
  have e4 := up_1 (a := a + 1 + 1 + 1) rfl (by omega) (by omega)
  rw [h]
  omega
/-- feed: class and reference answer alike, and hold as many bytes -/
theorem feed_same {u w : RSt} {v c : CSt} (hN : 6 ≤ N) (hM : 6 ≤ M) (h0 : 0 ≤ (v.1 0).toInt) (h6 : (v.1 0).toInt ≤ 6000) (e : v.1 0 = u.1 1) (h : F_feed N l1 l2 l3 l4 l5 u = some (r, w)) (hc : F_X11_feed M l1 l2 l3 l4 l5 v = some (y, c)) : y = r ∧ c.1 0 = w.1 1 := by
  unfold F_feed B_feed_0 at h
  unfold F_X11_feed B_X11_feed_0 at hc
  have h1 : (if ((u.1 1) + 20) ≤ (6000 : Int32) then (LP_feed_23 N N (l1, l2, l3, l4, l5, 0, sI u 9 0)) else (some (0, sI u 9 0))) = some (r, w) := h
  have c1 : (if ((v.1 0) + 20) ≤ (6000 : Int32) then (bc (F_X11_append M l1 v) fun _ u_2 => bc (F_X11_append M l2 u_2) fun _ u_3 => bc (F_X11_append M l3 u_3) fun _ u_4 => bc (F_X11_append M l4 u_4) fun _ u_5 => bc (F_X11_append M l5 u_5) fun _ u_6 => some (1, u_6)) else (some (0, v))) = some (y, c) := hc
  rw [← e] at h1
  by_cases q : v.1 0 + 20 ≤ 6000
  · rw [if_pos q] at h1 c1
    obtain ⟨e1, e2⟩ := fo_all hN h1
    have q := Int32.le_iff_toInt_le.mp q
    have e6 : (6000 : Int32).toInt = 6000 := rfl
    have e20 : (20 : Int32).toInt = 20 := rfl
    rw [tI_add (by rw [e20]; omega) (by rw [e20]; omega), e20, e6] at q
    obtain ⟨r1, a, g1, c1⟩ := bc_of c1
    obtain ⟨r2, b, g2, c1⟩ := bc_of c1
    obtain ⟨r3, d, g3, c1⟩ := bc_of c1
    obtain ⟨r4, k, g4, c1⟩ := bc_of c1
    obtain ⟨r5, z, g5, c1⟩ := bc_of c1
    obtain ⟨y1, y2⟩ := fst_some c1
    have n5 : 5 ≤ M := by omega
    have ea := ap_all n5 h0 (by omega) g1
    have ia := up_4 ea h0 (by omega)
    have eb := ap_all n5 (by omega) (by omega) g2
    have ib := up_4 eb (by omega) (by omega)
    have ed := ap_all n5 (by omega) (by omega) g3
    have id9 := up_4 ed (by omega) (by omega)
    have ek := ap_all n5 (by omega) (by omega) g4
    have ik := up_4 ek (by omega) (by omega)
    have ez := ap_all n5 (by omega) (by omega) g5
    refine ⟨by rw [← y1, ← e1], ?_⟩
    have e9 : (sI u 9 0).1 1 = u.1 1 := rfl
    rw [← y2, ez, ek, ed, eb, ea, e2, e9, e]
  · rw [if_neg q] at h1 c1
    obtain ⟨y1, y2⟩ := fst_some h1
    obtain ⟨z1, z2⟩ := fst_some c1
    refine ⟨by rw [← z1, ← y1], ?_⟩
    rw [← z2, ← y2, e]
    rfl
/-- end: class and reference answer alike, and hold as many bytes -/
theorem end_same {u w : RSt} {v c : CSt} (e : v.1 0 = u.1 1) (h : F_end N l1 u = some (r, w)) (hc : F_X11_end M l1 v = some (y, c)) : y = r ∧ c.1 0 = w.1 1 := by
  unfold F_end B_end_0 at h
  unfold F_X11_end B_X11_end_0 at hc
  have h1 : (if l1 < (0 : Int32) then (some ((0 : Int32), sI u 9 0)) else (if l1 ≤ u.1 1 then (some (1, sI (sI u 9 0) 1 l1)) else (some (0, sI u 9 0)))) = some (r, w) := h
  have c1 : (if l1 < (0 : Int32) then (some ((0 : Int32), v)) else (if l1 ≤ v.1 0 then (some (1, xI v 0 l1)) else (some (0, v)))) = some (y, c) := hc
  rw [← e] at h1
  by_cases q : l1 < 0
  · rw [if_pos q] at h1 c1
    obtain ⟨y1, y2⟩ := fst_some h1
    obtain ⟨z1, z2⟩ := fst_some c1
    exact ⟨by rw [← z1, ← y1], by rw [← z2, ← y2, e]; rfl⟩
  rw [if_neg q] at h1 c1
  by_cases q2 : l1 ≤ v.1 0
  · rw [if_pos q2] at h1 c1
    obtain ⟨y1, y2⟩ := fst_some h1
    obtain ⟨z1, z2⟩ := fst_some c1
    exact ⟨by rw [← z1, ← y1], by rw [← z2, ← y2]; rfl⟩
  · rw [if_neg q2] at h1 c1
    obtain ⟨y1, y2⟩ := fst_some h1
    obtain ⟨z1, z2⟩ := fst_some c1
    exact ⟨by rw [← z1, ← y1], by rw [← z2, ← y2, e]; rfl⟩
/-- load empties the tape of the class -/
theorem load_c {u w : CSt} (h : F_X11_load N l1 u = some (r, w)) : w.1 0 = 0 := by
  unfold F_X11_load at h
  obtain ⟨r1, u1, -, h⟩ := bc_of h
  obtain ⟨u2, e2, h⟩ := pc_of h
  have e0 : u2.1 0 = 0 := by rw [← e2]; rfl
  have k : KCw (bh (F_X0_check N u2) (fun w => some (cI w 6, w)) fun _ u3 => ok (cR u3 1 < 2) inferInstance <| bh (F_X3_make N (cR u3 1) u3) (fun w => some (cI w 6, w)) fun _ u4 => bc (F_X11_install N l1 u4) fun _ u5 => some (cI u5 6, u5)) u2 := by
    refine KCw_bh kq_F_X0_check (fun _ => KCw_some rfl) (fun _ u3 => KCw_ok ?_)
    refine KCw_bh kq_F_X3_make (fun _ => KCw_some rfl) (fun _ u4 => ?_)
    exact KCw_bc kq_F_X11_install (fun _ _ => KCw_some rfl)
  exact (k _ _ h).trans e0
def KZ (x : Option (Int32 × RSt)) : Prop := ∀ r w, x = some (r, w) → w.1 1 = 0
theorem KZ_pu {x : RSt} {k : RSt → Option (Int32 × RSt)} (h : KZ (k x)) : KZ (pu x k) := h
theorem KZ_bn {α : Type} {x : Option (α × RSt)} {k : α → RSt → Option (Int32 × RSt)} (h : ∀ r w, KZ (k r w)) : KZ (bn x k) := by
  intro r z e
  obtain ⟨a, b, -, e2⟩ := bn_of e
  exact h _ _ _ _ e2
theorem KZ_wr {n : Nat} {i : Int32} {x : RSt} {k : RSt → Option (Int32 × RSt)} (h : KZ (k x)) : KZ (wr n i x k) := by
  intro r z e
  have q : wp (wr n i x k) (fun r' z' => r' = r ∧ z' = z) := ⟨r, z, e, rfl, rfl⟩
  obtain ⟨r1, z1, e1, rfl, rfl⟩ := (wp_wr.mp q).2
  exact h _ _ e1
theorem KZ_if {c : Prop} {d : Decidable c} {a b : Option (Int32 × RSt)} (ha : KZ a) (hb : KZ b) : KZ (if c then a else b) := by
  by_cases q : c
  · rw [if_pos q]; exact ha
  · rw [if_neg q]; exact hb
theorem kz_171 {s1 : Int32} {u : RSt} (h : u.1 1 = 0) : KZ (B_load_171 N l1 s1 u) := by
  have k : KFw (B_load_171 N l1 s1 u) u := by
    unfold B_load_171
    refine KFw_pu (KFw_if ?_ (KFw_some rfl))
    exact KFw_bn (kf_F_accept.tr rfl) (fun _ _ => KFw_some rfl)
  exact fun r w e => (k r w e).trans h
theorem kz_150 {u : RSt} : KZ (B_load_150 N l1 u) := by
  unfold B_load_150
  show KZ (if ((sI u 1 0).1 67) = (0 : Int32) then (B_load_171 N l1 (-1) (sI u 1 0)) else (B_load_171 N l1 ((sI u 1 0).1 68) (sI u 1 0)))
  exact KZ_if (kz_171 rfl) (kz_171 rfl)
theorem kz_123 (n : Nat) : ∀ a, KZ (LP_load_123 N n a) := by
  induction n with
  | zero => intro a r z e; cases e
  | succ n ih =>
    intro a
    show KZ (B_load_123 N (LP_load_123 N n) a.1 a.2.1 a.2.2)
    unfold B_load_123
    refine KZ_if ?_ ?_
    · exact KZ_bn (fun _ _ => KZ_bn (fun _ _ => kz_150))
    · exact KZ_wr (ih _)
/-- load empties the tape of the reference -/
theorem load_r {u w : RSt} (h : F_load N l1 u = some (r, w)) : w.1 1 = 0 := by
  have k : KZ (F_load N l1 u) := by
    unfold F_load B_load_0
    refine KZ_pu (KZ_bn (fun _ u2 => KZ_pu (KZ_pu (KZ_pu (KZ_bn (fun _ u3 => KZ_if ?_ kz_150))))))
    refine KZ_wr (KZ_wr (KZ_wr (KZ_wr (KZ_wr (KZ_wr (KZ_wr ?_))))))
    exact KZ_pu (KZ_pu (kz_123 _ _))
  exact k _ _ h
end RTape
