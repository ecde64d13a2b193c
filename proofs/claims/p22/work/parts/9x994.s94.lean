/-! load and the lists of what is traced; J8. -/
section Tl8
variable {v w : CSt} {u x z : RSt} {N M : Nat} {l1 l2 l3 l4 : Int32}
theorem lc_inst : pq (F_X11_install N l1 v) (fun _ w => cR w 0 = cR v 1 ∧ cI w 9 = 0) := by
  refine fun r w e => ⟨(inst_T r w e).1, ?_⟩
  revert r w e
  show pq (F_X11_install N l1 v) (fun _ w => cI w 9 = 0)
  unfold F_X11_install B_X11_install_0
  refine pq_ok (fun _ => pq_ok (fun _ => pq_pc (pq_pc (pq_ok (fun _ => pq_bc (fun r1 w1 e1 => pq_bc ?_))))))
  unfold F_X10_forget B_X10_forget_0
  refine pq_pc (pq_pc (pq_pc (pq_some ?_)))
  exact pq_if (fun _ => pq_bc (fun r3 w3 e3 => pq_pc (pq_some ((kv_F_X1_wipe _ _ e3).1)))) (fun _ => pq_some rfl)
/-- the class -/
theorem lc_T : pq (F_X11_load N l1 v) (fun _ w => (cR w 0 = cR v 0 ∧ jv v w) ∨ (cR w 0 = cR v 1 ∧ cI w 9 = 0)) := by
  unfold F_X11_load
  refine pq_bc (fun r1 v1 e1 => pq_pc ?_)
  have a1 : jv v v1 := kv_F_X9_read _ _ e1
  have b1 : v1.2.2.2.2 = v.2.2.2.2 := m5_F_X9_read _ _ e1
  refine pq_bh (fun y2 v2 e2 => ?_)
  have a2 : jv v v2 := jv_tr a1 (jv_tr (show jv v1 (xI v1 0 0) from ⟨rfl, rfl, rfl⟩) (kv_F_X0_check _ _ e2))
  have b2 : v2.2.2.2.2 = v.2.2.2.2 := Eq.trans (show v2.2.2.2.2 = (xI v1 0 0).2.2.2.2 from m5_F_X0_check _ _ e2) b1
  have c0 : cR v2 0 = cR v 0 := by
    show v2.2.2.2.2.2.2.2.2.2.2 0 = v.2.2.2.2.2.2.2.2.2.2 0
    rw [b2]
  have c1 : cR v2 1 = cR v 1 := by
    show v2.2.2.2.2.2.2.2.2.2.2 1 = v.2.2.2.2.2.2.2.2.2.2 1
    rw [b2]
  refine ⟨fun _ => pq_some (Or.inl ⟨c0, a2⟩), fun b _ => pq_ok (fun _ => pq_bh (fun y3 v3 e3 => ?_))⟩
  have a3 : jv v v3 := jv_tr a2 (kv_F_X3_make _ _ e3)
  have o3 := (o_make _ _ e3).2.2.2
  have d0 : cR v3 0 = cR v 0 := (o3 0 (by decide) (by decide)).trans c0
  have d1 : cR v3 1 = cR v 1 := (o3 1 (by decide) (by decide)).trans c1
  refine ⟨fun _ => pq_some (Or.inl ⟨d0, a3⟩), fun b _ => pq_bc (fun r4 v4 e4 => pq_some (Or.inr ?_))⟩
  have j4 := lc_inst _ _ e4
  exact ⟨j4.1.trans d1, j4.2⟩
/-! the reference: accepting forgets -/
theorem c_283 : ∀ (F : Nat) (l2 : Int32) (z : RSt), pp (LP_accept_283 N F (l1, l2, z)) (fun _ w => w.1 98 = 0) := by
  intro F
  induction F with
  | zero => exact fun _ _ _ _ e => nomatch e
  | succ F ih =>
    intro l2 z
    show pp (B_accept_283 N (LP_accept_283 N F) l1 l2 z) _
    unfold B_accept_283
    refine pp_if (fun _ => pp_pu (pp_pu (pp_if (fun _ => pp_bn (fun r3 z3 e3 => pp_some ((kx_F_begin _ _ e3).1))) (fun _ => pp_some rfl)))) (fun _ => pp_wr (pp_wr (pp_wr (pp_wr (pp_wr (pp_wr (ih _ _)))))))
theorem c_243 : ∀ (F : Nat) (l2 : Int32) (z : RSt), pp (LP_accept_243 N F (l1, l2, z)) (fun _ w => w.1 98 = 0) := by
  intro F
  induction F with
  | zero => exact fun _ _ _ _ e => nomatch e
  | succ F ih =>
    intro l2 z
    show pp (B_accept_243 N (LP_accept_243 N F) l1 l2 z) _
    unfold B_accept_243
    exact pp_if (fun _ => pp_pu (pp_bn (fun r2 z2 e2 => c_283 N 0 z2))) (fun _ => pp_rd (pp_wr (ih _ _)))
theorem c_164 {R9 : Int32 × Int32 × RSt → Option (Int32 × RSt)} {R90 : Int32 × Int32 × Int32 × RSt → Option (Int32 × RSt)} (h90 : ∀ a, pp (R90 a) (fun _ w => w.1 98 = 0)) : ∀ (F : Nat) (l4 : Int32) (z : RSt), pp (LP_accept_164 N R9 R90 F (l1, l2, l3, l4, z)) (fun _ w => w.1 98 = 0) := by
  intro F
  induction F with
  | zero => exact fun _ _ _ _ e => nomatch e
  | succ F ih =>
    intro l4 z
    show pp (B_accept_164 N R9 R90 (LP_accept_164 N R9 R90 F) l1 l2 l3 l4 z) _
    unfold B_accept_164 B_accept_229
    exact pp_rd (pp_if (fun _ => h90 _) (fun _ => pp_rd (pp_if (fun _ => h90 _) (fun _ => pp_rd (pp_rd (pp_rd (pp_rd (pp_wr (ih _ _)))))))))
theorem c_90 {R9 : Int32 × Int32 × RSt → Option (Int32 × RSt)} (h9 : ∀ a, pp (R9 a) (fun _ w => w.1 98 = 0)) : ∀ (F : Nat) (a : Int32 × Int32 × Int32 × RSt), pp (LP_accept_90 N R9 F a) (fun _ w => w.1 98 = 0) := by
  intro F
  induction F with
  | zero => exact fun _ _ _ e => nomatch e
  | succ F ih =>
    rintro ⟨l1, l2, l3, z⟩
    show pp (B_accept_90 N R9 (LP_accept_90 N R9 F) l1 l2 l3 z) (fun _ w => w.1 98 = 0)
    unfold B_accept_90 B_accept_235 B_accept_229
    exact pp_if (fun _ => h9 _) (fun _ => pp_rd (pp_if (fun _ => h9 _) (fun _ => pp_rd (pp_if (fun _ => ih _) (fun _ => pp_rd (pp_rd (pp_if (fun _ => pp_rd (pp_rd (pp_if (fun _ => c_164 ih N 0 z) (fun _ => ih _)))) (fun _ => ih _))))))))
theorem c_46 {R9 : Int32 × Int32 × RSt → Option (Int32 × RSt)} (h9 : ∀ a, pp (R9 a) (fun _ w => w.1 98 = 0)) : ∀ (F : Nat) (l3 : Int32) (z : RSt), pp (LP_accept_46 N R9 F (l1, l2, l3, z)) (fun _ w => w.1 98 = 0) := by
  intro F
  induction F with
  | zero => exact fun _ _ _ _ e => nomatch e
  | succ F ih =>
    intro l3 z
    show pp (B_accept_46 N R9 (LP_accept_46 N R9 F) l1 l2 l3 z) _
    unfold B_accept_46
    exact pp_rd (pp_if (fun _ => c_90 h9 N _) (fun _ => pp_rd (pp_rd (pp_wr (ih _ _)))))
theorem c_9 : ∀ (F : Nat) (a : Int32 × Int32 × RSt), pp (LP_accept_9 N F a) (fun _ w => w.1 98 = 0) := by
  intro F
  induction F with
  | zero => exact fun _ _ _ e => nomatch e
  | succ F ih =>
    rintro ⟨l1, l2, z⟩
    show pp (B_accept_9 N (LP_accept_9 N F) l1 l2 z) (fun _ w => w.1 98 = 0)
    unfold B_accept_9 B_accept_235
    exact pp_rd (pp_if (fun _ => c_243 N 0 z) (fun _ => pp_rd (pp_if (fun _ => c_46 ih N 0 z) (fun _ => ih _))))
theorem acc_98 : pp (F_accept N l1 u) (fun _ w => w.1 98 = 0) := by
  unfold F_accept B_accept_0
  exact c_9 N _
theorem r_150 : pp (B_load_150 N l1 x) (fun _ z => (¬ x.1 67 = 0 → z.1 55 = x.1 55 ∧ jw x z) ∧ (x.1 67 = 0 → z.1 55 = x.1 56 ∧ z.1 98 = 0)) := by
  by_cases h : x.1 67 = 0
  · refine pp_m (pp_and (y_150t (N := N) (l1 := l1) h) ?_) (fun _ z hz => ⟨fun n => absurd h n, fun _ => ⟨hz.1.1, hz.2⟩⟩)
    unfold B_load_150 B_load_171
    refine pp_pu ?_
    rw [if_pos (show (sI x 1 0).1 67 = 0 from h)]
    refine pp_pu ?_
    rw [if_pos (show (sI (sI x 1 0) 106 (-1)).1 67 = 0 from h)]
    exact pp_bn (pp_m acc_98 (fun _ z hz => pp_some hz))
  · unfold B_load_150 B_load_171
    refine pp_pu ?_
    rw [if_neg (show ¬ (sI x 1 0).1 67 = 0 from h)]
    refine pp_pu ?_
    rw [if_neg (show ¬ (sI (sI x 1 0) 106 ((sI x 1 0).1 68)).1 67 = 0 from h)]
    exact pp_some ⟨fun _ => ⟨rfl, rfl, rfl, rfl, rfl⟩, fun q => absurd q h⟩
/-- a pass over the text leaves it -/
theorem r_go8 : pp (F_goThrough N l1 u) (fun _ w => w.1 55 = u.1 55 ∧ w.1 56 = u.1 56 ∧ jw u w) := by
  unfold F_goThrough B_goThrough_0
  refine pp_zr (pp_pu (pp_pu (pp_pu (pp_pu (pp_pu (pp_bn (fun r w e => pp_some ?_)))))))
  have hk : kp (sI (sI (sI (sI (sI u 69 l1) 65 0) 66 0) 70 0) 74 0) w := sk_F_text r w e
  exact ⟨(hk.1 55 (by decide) (by decide) (by decide)).trans rfl, (hk.1 56 (by decide) (by decide) (by decide)).trans rfl, (hk.1 98 (by decide) (by decide) (by decide)).trans rfl, (hk.2.1 95 (by decide)).trans rfl, (hk.2.1 96 (by decide)).trans rfl, (hk.1 55 (by decide) (by decide) (by decide)).trans rfl⟩
/-- the reference -/
theorem lr_T (hE : ∀ y r w, F_eight N y = some (r, w) → w.1 55 = y.1 55 ∧ w.1 56 = y.1 56) : pp (F_load N l2 u) (fun _ x => (x.1 55 = u.1 55 ∧ jw u x) ∨ (x.1 55 = 1 - u.1 55 ∧ x.1 98 = 0)) := by
  unfold F_load B_load_0
  refine pp_pu (pp_bn (fun r1 x1 e1 => pp_pu (pp_pu (pp_pu (pp_bn (pp_m r_go8 (fun _ x2 h2 => ?_)))))))
  have a1 : jw u x1 := jw_tr (show jw u (sI u 9 0) from ⟨rfl, rfl, rfl, rfl⟩) (kx_F_cutAll _ _ e1)
  have b1 : x1.1 55 = u.1 55 := a1.2.2.2
  obtain ⟨c1, c2, c3⟩ := h2
  have d1 : x2.1 55 = u.1 55 := c1.trans b1
  have d2 : x2.1 56 = 1 - u.1 55 := c2.trans (by show 1 - x1.1 55 = _; rw [b1])
  have d3 : jw u x2 := jw_tr a1 (jw_tr (show jw x1 (sI (sI (sI x1 56 (1 - x1.1 55)) 67 0) 68 (-1)) from ⟨rfl, rfl, rfl, rfl⟩) c3)
  have fin : ∀ x, x.1 55 = u.1 55 → x.1 56 = 1 - u.1 55 → jw u x → pp (B_load_150 N l2 x) (fun _ x => (x.1 55 = u.1 55 ∧ jw u x) ∨ (x.1 55 = 1 - u.1 55 ∧ x.1 98 = 0)) := by
    intro x g1 g2 g3
    refine pp_m r_150 (fun _ z hz => ?_)
    by_cases h : x.1 67 = 0
    · exact Or.inr ⟨(hz.2 h).1.trans g2, (hz.2 h).2⟩
    · exact Or.inl ⟨(hz.1 h).1.trans g1, jw_tr g3 (hz.1 h).2⟩
  refine pp_if (fun _ => ?_) (fun _ => fin x2 d1 d2 d3)
  refine pp_wr (pp_wr (pp_wr (pp_wr (pp_wr (pp_wr (pp_wr (pp_pu (pp_pu ?_))))))))
  refine y_123 (fun x6 f6 _ => ?_)
  have g1 : x6.1 55 = u.1 55 := (f6.1 55 (fun y => nomatch y)).trans d1
  have g2 : x6.1 56 = 1 - u.1 55 := (f6.1 56 (fun y => nomatch y)).trans d2
  have g3 : jw u x6 := jw_tr d3 ⟨(f6.1 98 (fun y => nomatch y)).trans rfl, (f6.2.1 95 (by decide)).trans rfl, (f6.2.1 96 (by decide)).trans rfl, (f6.1 55 (fun y => nomatch y)).trans rfl⟩
  refine pp_bn (fun r7 x7 e7 => pp_bn (pp_m r_go8 (fun _ x8 h8 => ?_)))
  have k7 := hE _ _ _ e7
  have j7 := kx_F_eight _ _ e7
  exact fin x8 (h8.1.trans (k7.1.trans g1)) (h8.2.1.trans (k7.2.trans g2)) (jw_tr g3 (jw_tr j7 h8.2.2))
/-- what holds between two calls: what is traced too -/
def J8 (v : CSt) (u : RSt) : Prop := J7 v u ∧ TL v u
theorem TL_fr (h : TL v u) (hc : jv v w) (hr : jw u x) : TL w x := by
  obtain ⟨h1, h2, h3, h4⟩ := h
  obtain ⟨a1, a2, a3⟩ := hc
  obtain ⟨b1, b2, b3, -⟩ := hr
  exact ⟨by rw [a1, b1]; exact h1, by rw [a1]; exact h2, by rw [a1]; exact h3, fun i hi => by rw [a1] at hi; rw [a2, a3, b2, b3]; exact h4 i hi⟩
theorem load_J8 {y r : Int32} (hN : 5000000000 ≤ N) (hJ : J8 v u) (h55 : 0 ≤ (u.1 55).toInt ∧ (u.1 55).toInt ≤ 1) (h9 : F_X11_load N l1 v = some (y, w)) (h8 : F_load N l2 u = some (r, x)) : J8 w x := by
  have e1 : (1 : Int32).toInt = 1 := by decide
  have e0 : (0 : Int32).toInt = 0 := by decide
  refine ⟨load_J7 hN hJ.1 h55 h9 h8, ?_⟩
  obtain ⟨j5, h01, hr2, s0, T, hs, h5, hT⟩ := hJ.1
  have hL : LDs v w u x s0 := load_more hN j5.1 h5 hs h01 hr2 _ _ h9 _ _ h8
  have hc := lc_T _ _ h9
  have hx : (x.1 55 = u.1 55 ∧ jw u x) ∨ (x.1 55 = 1 - u.1 55 ∧ x.1 98 = 0) := by
    refine lr_T (N := N) (l2 := l2) (fun y r w e => ?_) _ _ h8
    have := pp_of (x_eight (u := y) hN) _ _ e
    exact ⟨this.1.1 55 (by decide), this.1.1 56 (by decide)⟩
  have s1 : (1 - u.1 55).toInt = 1 - (u.1 55).toInt := by rw [tI_sub (by rw [e1]; omega) (by rw [e1]; omega), e1]
  rcases hL with ⟨a1, a2, -, -, -, a6, -⟩ | ⟨a1, a2, a3, -⟩
  · have hc' : jv v w := by
      rcases hc with ⟨-, h⟩ | ⟨h, -⟩
      · exact h
      · exact absurd (a1.symm.trans h) h01
    have hx' : jw u x := by
      rcases hx with ⟨-, h⟩ | ⟨h, -⟩
      · exact h
      · have := congrArg Int32.toInt (a6.symm.trans h)
        omega
    exact TL_fr hJ.2 hc' hx'
  · have hc' : cI w 9 = 0 := by
      rcases hc with ⟨h, -⟩ | ⟨-, h⟩
      · exact absurd (h.symm.trans a1) h01
      · exact h
    have hx' : x.1 98 = 0 := by
      rcases hx with ⟨h, -⟩ | ⟨-, h⟩
      · rw [h] at a3
        omega
      · exact h
    exact ⟨by rw [hc', hx'], by rw [hc', e0]; exact Int.le_refl _, by rw [hc', e0]; decide, fun i hi => by rw [hc', e0] at hi; omega⟩
theorem J8.je (hJ : J8 v u) (h7 : J7 w x) (hc : jv v w) (hr : jw u x) : J8 w x := ⟨h7, TL_fr hJ.2 hc hr⟩
theorem trace_J {y : Sum Nat Int32} {r : Int32} (hJ : J8 v u) (hb : l3 = 0 ∨ l3 = 1) (h8 : F_trace M l1 l2 l3 u = some (r, x)) (h9 : F_X11_trace N l1 l2 l3 v = some (y, w)) : ((y = .inl 3 ∧ x.1 9 = 1) ∨ (y = .inl 0 ∧ x.1 9 = 2) ∨ (y = .inr r ∧ x.1 9 = 0)) ∧ TL w x := by
  obtain ⟨⟨-, h01, hr2, s0, T, hs, h55, hT⟩, hL⟩ := hJ
  exact trace_T hT hL rfl h55 hs hb _ _ h9 _ _ h8
end Tl8
