/-! load: what it does to the tables of what is installed. -/
/-- a FAULT: all stays; or what was made is installed -/
def LDs (v w : CSt) (u x : RSt) (s0 : Nat) : Prop := (cR w 0 = cR v 0 ∧ cR w 1 = cR v 1 ∧ (∀ y, y < 169 → CNa v w (cR v 0) y) ∧ pI w (cR v 0) 12 = pI v (cR v 0) 12 ∧ (∀ k, k ∈ [4, 5, 6, 7, 8, 9] → pA w (cR v 0) k = pA v (cR v 0) k) ∧ x.1 55 = u.1 55 ∧ sso s0 u x) ∨ (cR w 0 = cR v 1 ∧ cR w 1 = cR v 0 ∧ (x.1 55).toInt = ((1 - s0 : Nat) : Int) ∧ ∃ T, TBM w x (cR v 1) (1 - s0) T)
section Load4
variable {v w : CSt} {u x z : RSt} {N n q s : Nat} {l1 l2 : Int32}
theorem sso_rows (hA : ∀ k, k ∈ lA → x.2.2.1 k = u.2.2.1 k) (hB : ∀ k, k ∈ lB → x.2.2.2 k = u.2.2.2 k) : sso s u x := by
  have la : ∀ k, k ∈ [10, 11, 12, 13, 14, 15, 20, 21, 22, 23] ∨ k ∈ [28, 29, 30, 31, 32, 33, 38, 39] ∨ k ∈ [43, 44, 45] ∨ k ∈ [19, 27, 36, 37, 42, 48] → k ∈ lA := by
    intro k h
    unfold lA
    simp only [List.mem_cons, List.not_mem_nil, or_false] at h ⊢
    omega
  have lb : ∀ k, k ∈ [16, 17, 18, 24, 25, 26] ∨ k ∈ [34, 35, 40, 41] ∨ k ∈ [46, 47] → k ∈ lB := by
    intro k h
    unfold lB
    simp only [List.mem_cons, List.not_mem_nil, or_false] at h ⊢
    omega
  exact ⟨fun k h j _ => by rw [hA k (la k (Or.inl h))], fun k h j _ => by rw [hA k (la k (Or.inr (Or.inl h)))], fun k h j _ => by rw [hA k (la k (Or.inr (Or.inr (Or.inl h))))], fun k h => by rw [hA k (la k (Or.inr (Or.inr (Or.inr h))))], fun k h j _ => by rw [hB k (lb k (Or.inl h))], fun k h j _ => by rw [hB k (lb k (Or.inr (Or.inl h)))], fun k h j _ => by rw [hB k (lb k (Or.inr (Or.inr h)))]⟩
theorem sd_rows (hA : ∀ k, k ∈ lA → x.2.2.1 k = u.2.2.1 k) (hB : ∀ k, k ∈ lB → x.2.2.2 k = u.2.2.2 k) : sd s u x := by
  have la : ∀ k, k ∈ [10, 11, 12, 13, 14, 15, 20, 21, 22, 23] ∨ k ∈ [28, 29, 30, 31, 32, 33, 38, 39] ∨ k ∈ [43, 44, 45] ∨ k ∈ [19, 27, 36, 37, 42, 48] → k ∈ lA := by
    intro k h
    unfold lA
    simp only [List.mem_cons, List.not_mem_nil, or_false] at h ⊢
    omega
  have lb : ∀ k, k ∈ [16, 17, 18, 24, 25, 26] ∨ k ∈ [34, 35, 40, 41] ∨ k ∈ [46, 47] → k ∈ lB := by
    intro k h
    unfold lB
    simp only [List.mem_cons, List.not_mem_nil, or_false] at h ⊢
    omega
  exact ⟨fun k h j _ => by rw [hA k (la k (Or.inl h))], fun k h j _ => by rw [hA k (la k (Or.inr (Or.inl h)))], fun k h j _ => by rw [hA k (la k (Or.inr (Or.inr (Or.inl h))))], fun k h j _ => by rw [hA k (la k (Or.inr (Or.inr (Or.inr h))))], fun k h j _ => by rw [hB k (lb k (Or.inl h))], fun k h j _ => by rw [hB k (lb k (Or.inr (Or.inl h)))], fun k h j _ => by rw [hB k (lb k (Or.inr (Or.inr h)))]⟩
theorem sso_tr (h : sso s u x) (g : sso s x z) : sso s u z := ⟨fun k hk j hj => (g.1 k hk j hj).trans (h.1 k hk j hj), fun k hk j hj => (g.2.1 k hk j hj).trans (h.2.1 k hk j hj), fun k hk j hj => (g.2.2.1 k hk j hj).trans (h.2.2.1 k hk j hj), fun k hk => (g.2.2.2.1 k hk).trans (h.2.2.2.1 k hk), fun k hk j hj => (g.2.2.2.2.1 k hk j hj).trans (h.2.2.2.2.1 k hk j hj), fun k hk j hj => (g.2.2.2.2.2.1 k hk j hj).trans (h.2.2.2.2.2.1 k hk j hj), fun k hk j hj => (g.2.2.2.2.2.2 k hk j hj).trans (h.2.2.2.2.2.2 k hk j hj)⟩
theorem sso_2 (h : x.2 = u.2) : sso s u x := sso_rows (fun k _ => by rw [h]) (fun k _ => by rw [h])
theorem y_150g (h : ¬ x.1 67 = 0) : pp (B_load_150 N l1 x) (fun _ z => z.1 55 = x.1 55 ∧ z.2 = x.2) := by
  unfold B_load_150 B_load_171
  refine pp_pu ?_
  rw [if_neg (show ¬ (sI x 1 0).1 67 = 0 from h)]
  refine pp_pu ?_
  rw [if_neg (show ¬ (sI (sI x 1 0) 106 ((sI x 1 0).1 68)).1 67 = 0 from h)]
  exact pp_some ⟨rfl, rfl⟩
theorem y_150t (h : x.1 67 = 0) : pp (B_load_150 N l1 x) (fun _ z => z.1 55 = x.1 56 ∧ (∀ k, k ∈ lA → z.2.2.1 k = x.2.2.1 k) ∧ (∀ k, k ∈ lB → z.2.2.2 k = x.2.2.2 k)) := by
  unfold B_load_150 B_load_171
  refine pp_pu ?_
  rw [if_pos (show (sI x 1 0).1 67 = 0 from h)]
  refine pp_pu ?_
  rw [if_pos (show (sI (sI x 1 0) 106 (-1)).1 67 = 0 from h)]
  exact pp_bn (pp_m acc_T (fun _ z hz => pp_some hz))
theorem LD_bad {s0 : Nat} (tbw : w.2.2.2.2 = v.2.2.2.2) (h55 : x.1 55 = u.1 55) (hso : sso s0 u x) : cR w 0 = cR v 0 ∧ cR w 1 = cR v 1 ∧ (∀ y, y < 169 → CNa v w (cR v 0) y) ∧ pI w (cR v 0) 12 = pI v (cR v 0) 12 ∧ (∀ k, k ∈ [4, 5, 6, 7, 8, 9] → pA w (cR v 0) k = pA v (cR v 0) k) ∧ x.1 55 = u.1 55 ∧ sso s0 u x := by
  refine ⟨?_, ?_, fun y _ => ⟨fun k _ => ?_, fun k => ?_⟩, ?_, fun k _ => ?_, h55, hso⟩
  · show w.2.2.2.2.2.2.2.2.2.2 0 = v.2.2.2.2.2.2.2.2.2.2 0
    rw [tbw]
  · show w.2.2.2.2.2.2.2.2.2.2 1 = v.2.2.2.2.2.2.2.2.2.2 1
    rw [tbw]
  · show w.2.2.2.2.2.2.2.2.1 _ k = v.2.2.2.2.2.2.2.2.1 _ k
    rw [tbw]
  · show w.2.2.2.2.2.2.2.2.2.1 _ k = v.2.2.2.2.2.2.2.2.2.1 _ k
    rw [tbw]
  · show w.2.2.2.2.1 _ 12 = v.2.2.2.2.1 _ 12
    rw [tbw]
  · show w.2.2.2.2.2.1 _ k = v.2.2.2.2.2.1 _ k
    rw [tbw]
theorem jt_x1 {a b : CSt} (h : jt a b) : jt a (xI b 1 0) := ⟨h.1, h.2.1, h.2.2.1, h.2.2.2.1, h.2.2.2.2⟩
/-- installing -/
theorem inst_T : pq (F_X11_install N l1 v) (fun _ w => cR w 0 = cR v 1 ∧ cR w 1 = cR v 0 ∧ pI w = pI v ∧ pA w = pA v ∧ mI w = mI v ∧ mL w = mL v) := by
  unfold F_X11_install B_X11_install_0
  refine pq_ok (fun _ => pq_ok (fun _ => pq_pc (pq_pc (pq_ok (fun _ => pq_bc (fun r1 w1 e1 => pq_bc (fun r2 w2 e2 => ?_)))))))
  have j1 := kt_F_X2_install _ _ e1
  have j2 := kt_F_X10_forget _ _ e2
  have j := jt_tr j1 j2
  obtain ⟨a1, a2, ⟨a3, a4⟩, a5, a6⟩ := j
  have fin : ∀ w3, jt w2 w3 → cR w3 0 = cR v 1 ∧ cR w3 1 = cR v 0 ∧ pI w3 = pI v ∧ pA w3 = pA v ∧ mI w3 = mI v ∧ mL w3 = mL v := by
    intro w3 h3
    obtain ⟨b1, b2, ⟨b3, b4⟩, b5, b6⟩ := h3
    refine ⟨b3.trans (a3.trans rfl), b4.trans (a4.trans rfl), b1.trans (a1.trans rfl), b2.trans (a2.trans rfl), b5.trans (a5.trans rfl), b6.trans (a6.trans rfl)⟩
  exact pq_if (fun _ => pq_bc (fun r3 w3 e3 => pq_pc (pq_some (fin (xI w3 1 0) (jt_x1 (kt_F_X1_wipe _ _ e3)))))) (fun _ => pq_some (fin _ jt_rf))
theorem load_more {s0 : Nat} (hN : 5000000000 ≤ N) (hJ : J4 v u) (hs0 : (u.1 55).toInt = (s0 : Int)) (hs02 : s0 < 2) (h01 : cR v 0 ≠ cR v 1) (hr2 : cR v 0 < 2 ∧ cR v 1 < 2) : pq (F_X11_load N l1 v) (fun _ w => pp (F_load N l2 u) (fun _ x => LDs v w u x s0)) := by
  have e0 : (0 : Int32).toInt = 0 := by decide
  have e1 : (1 : Int32).toInt = 1 := by decide
  obtain ⟨hW, h8, by_, len, hY, h0, hb, hR⟩ := hJ
  have hR9 : BR by_ len (sI u 9 0) := ⟨hR.1, hR.2⟩
  unfold F_X11_load
  refine pq_bc (pq_m (read_same (N := N) hY h0 hb hW hR9) (fun _ v1 hv1 => pq_pc ?_))
  refine pq_sw ?_
  unfold F_load B_load_0
  refine pp_pu (pp_bn (pp_m hv1 (fun _ x1 hx1 => ?_)))
  obtain ⟨hcut, h7, hrf, hrd⟩ := hx1
  refine pp_pu (pp_pu (pp_pu ?_))
  have x55 : x1.1 55 = u.1 55 := (hrf.1 55 (by decide)).trans rfl
  obtain ⟨s, hse, hs, hs2⟩ : ∃ s : Nat, s = 1 - s0 ∧ (1 - x1.1 55).toInt = s ∧ s < 2 := by
    have h1 := hs0
    rw [← x55] at h1
    have e : (1 - x1.1 55).toInt = 1 - (x1.1 55).toInt := by rw [tI_sub (by rw [e1]; omega) (by rw [e1]; omega), e1]
    exact ⟨1 - s0, rfl, by rw [e]; omega, by omega⟩
  have hne : s0 ≠ s := by omega
  have so1 : sso s0 u x1 := sso_rows (fun k hk => (hrf.2.2.1 k (fun z => by rw [z] at hk; exact absurd hk (by decide)) (fun z => by rw [z] at hk; exact absurd hk (by decide)) (fun z => by rw [z] at hk; exact absurd hk (by decide))).trans rfl) (fun k hk => (hrf.2.2.2 k (fun z => by rw [z] at hk; exact absurd hk (by decide)) (fun z => by rw [z] at hk; exact absurd hk (by decide)) (fun z => by rw [z] at hk; exact absurd hk (by decide))).trans rfl)
  have tb1 : v1.2.2.2.2 = v.2.2.2.2 := hrd.2.2.2
  obtain ⟨n, t1, t2, t3, t4⟩ := hcut
  have h8v : CB8 v1 := h8.fr (fun m k _ => by
    have e := hrd.2.2.2
    exact ⟨by show v1.2.2.2.2.2.2.2.2.1 m k = v.2.2.2.2.2.2.2.2.1 m k; rw [e], by show v1.2.2.2.2.2.2.2.2.2.1 m k = v.2.2.2.2.2.2.2.2.2.1 m k; rw [e]⟩)
  generalize h56 : 1 - x1.1 55 = a56 at hs ⊢
  -- the class: the first pass
  refine pp_sw ?_
  have hc3 : CUT (xI v1 0 0) (sI (sI (sI (sI (sI (sI (sI (sI x1 56 a56) 67 0) 68 (-1)) 69 0) 65 0) 66 0) 70 0) 74 0) := ⟨n, t1, t2, t3, t4⟩
  have hP := pq_and (pq_and (pq_and (pq_of (pass1 (N := N) hc3 (by omega) rfl rfl rfl rfl)) (pq_of (oc_check (N := N) (u := xI v1 0 0) (n := n) t1 (by omega)))) (show pq (F_X0_check N (xI v1 0 0)) (fun y w => isl y ∨ w.1 7 = (xI v1 0 0).1 7) from k7_F_X0_check)) (show pq (F_X0_check N (xI v1 0 0)) (fun _ w => km5 (xI v1 0 0) w) from m5_F_X0_check)
  refine pq_bh (pq_m hP (fun y w hy => ⟨fun ey => pq_some ?_, fun b ey => pq_ok (fun hq => ?_)⟩))
  · -- refused by the first pass
    obtain ⟨⟨⟨hp, -⟩, -⟩, hkm⟩ := hy
    have tbw : w.2.2.2.2 = v.2.2.2.2 := Eq.trans (show w.2.2.2.2 = (xI v1 0 0).2.2.2.2 from hkm) tb1
    refine pp_bn ?_
    unfold F_goThrough B_goThrough_0
    refine pp_zr (pp_pu (pp_pu (pp_pu (pp_pu (pp_pu (pp_bn (pp_m (pp_and (pp_and hp (fun r w e => sk_F_text r w e)) (show pp (F_text N (sI (sI (sI (sI (sI (sI (sI (sI x1 56 a56) 67 0) 68 (-1)) 69 0) 65 0) 66 0) 70 0) 74 0)) (fun _ z => tv s (CB 0 s) (sI (sI (sI (sI (sI (sI (sI (sI x1 56 a56) 67 0) 68 (-1)) 69 0) 65 0) 66 0) 70 0) 74 0) z) from xx_text hs2 N _ ⟨sd_rf, hs, fun hc => absurd rfl hc.1⟩)) (fun _ x4 hx4 => pp_some ?_))))))))
    obtain ⟨⟨hx4, hk⟩, htv⟩ := hx4
    have hk : kp (sI (sI (sI (sI (sI (sI (sI (sI x1 56 a56) 67 0) 68 (-1)) 69 0) 65 0) 66 0) 70 0) 74 0) x4 := hk
    rcases hx4 with ⟨-, n67, -, k68⟩ | ⟨r, j, e, -⟩
    · rw [if_neg n67]
      refine pp_m (y_150g n67) (fun _ z hz => Or.inl ?_)
      have z55 : z.1 55 = u.1 55 := by rw [hz.1, hk.1 55 (by decide) (by decide) (by decide)]; exact x55
      exact LD_bad tbw z55 (sso_tr so1 (sso_tr (sso_sd htv.1 hne) (sso_2 hz.2)))
    · rw [ey] at e
      cases e
  · -- the second pass
    obtain ⟨⟨⟨hp, hoc⟩, hk7⟩, hkm⟩ := hy
    have tbw : w.2.2.2.2 = v.2.2.2.2 := Eq.trans (show w.2.2.2.2 = (xI v1 0 0).2.2.2.2 from hkm) tb1
    have c7 : cI w 7 = -1 := by
      rcases hk7 with ⟨p, e⟩ | e
      · rw [ey] at e
        cases e
      · exact e.trans h7
    have hGO : GO (xI v1 0 0) w := by
      rcases hoc with ⟨p, -, -, e, -⟩ | ⟨r, j, -, -, -, g⟩
      · rw [ey] at e
        cases e
      · exact g.1
    have rw0 : cR w 0 = cR v 0 := by show w.2.2.2.2.2.2.2.2.2.2 0 = v.2.2.2.2.2.2.2.2.2.2 0; rw [tbw]
    have rw1 : cR w 1 = cR v 1 := by show w.2.2.2.2.2.2.2.2.2.2 1 = v.2.2.2.2.2.2.2.2.2.2 1; rw [tbw]
    generalize hqe : cR w 1 = q at hq ⊢
    have hqv : q = cR v 1 := by rw [← hqe]; exact rw1
    obtain ⟨z, ⟨m5, m13, m16, m12, m4, m7, mp12, mp15, mr2, mr3, mA, mB, mp9, m228, mn⟩, hM⟩ := make_0 (N := N) (q := q) (w := w)
    have w4 : cI z 4 = cI v1 4 := m4.trans ((hGO.2 4 (by decide) (by decide) (by decide) (by decide)).trans rfl)
    have zA : ∀ k, k ≠ 228 → cA z k = cA v1 k := fun k hk => (mA k hk).trans (by show w.2.2.1 k = v1.2.2.1 k; rw [hGO.1]; rfl)
    have zB : cB z 205 = cB v1 205 := mB.trans (by show w.2.2.2.1 205 = v1.2.2.2.1 205; rw [hGO.1]; rfl)
    have z8 : CB8 z := (h8v.fr (w := w) (fun m k _ => by
      exact ⟨by show w.2.2.2.2.2.2.2.2.1 m k = v1.2.2.2.2.2.2.2.2.1 m k; rw [hGO.1]; rfl, by show w.2.2.2.2.2.2.2.2.2.1 m k = v1.2.2.2.2.2.2.2.2.2.1 m k; rw [hGO.1]; rfl⟩)).fr mn
    refine pq_sw (pp_bn ?_)
    unfold F_goThrough B_goThrough_0
    refine pp_zr (pp_pu (pp_pu (pp_pu (pp_pu (pp_pu (pp_bn (pp_m (pp_and (pp_and hp (fun r w e => sk_F_text r w e)) (show pp (F_text N (sI (sI (sI (sI (sI (sI (sI (sI x1 56 a56) 67 0) 68 (-1)) 69 0) 65 0) 66 0) 70 0) 74 0)) (fun _ z => tv s (CB 0 s) (sI (sI (sI (sI (sI (sI (sI (sI x1 56 a56) 67 0) 68 (-1)) 69 0) 65 0) 66 0) 70 0) 74 0) z) from xx_text hs2 N _ ⟨sd_rf, hs, fun hc => absurd rfl hc.1⟩)) (fun _ x4 hx4 => pp_some ?_))))))))
    obtain ⟨⟨h4, hk⟩, htv⟩ := hx4
    have hk : kp (sI (sI (sI (sI (sI (sI (sI (sI x1 56 a56) 67 0) 68 (-1)) 69 0) 65 0) 66 0) 70 0) 74 0) x4 := hk
    obtain ⟨j2, z67, hD⟩ : ∃ j, x4.1 67 = 0 ∧ dText (tyF (xI v1 0 0)) 0 (.inr j) := by
      rcases h4 with ⟨e, -⟩ | ⟨r, j, -, g1, g2⟩
      · rw [ey] at e
        cases e
      · exact ⟨j, g1, g2⟩
    have k56 : x4.1 56 = a56 := (hk.1 56 (by decide) (by decide) (by decide)).trans rfl
    have kA : ∀ k, k ∉ wA → x4.2.2.1 k = x1.2.2.1 k := fun k h => (hk.2.1 k h).trans rfl
    have kB : ∀ k, k ∉ wB → x4.2.2.2 k = x1.2.2.2 k := fun k h => (hk.2.2.1 k h).trans rfl
    rw [if_pos z67]
    refine pp_wr (pp_wr (pp_wr (pp_wr (pp_wr (pp_wr (pp_wr (pp_pu (pp_pu ?_))))))))
    have n56 : (x4.1 56).toNatClampNeg = s := by rw [k56]; show a56.toInt.toNat = s; omega
    obtain ⟨x5, hx5, f5, r19, r27, r36, r37, r42, r48⟩ : ∃ x5, x5 = sI (sI (sA (sA (sA (sA (sA (sA (sA x4 19 (x4.1 56).toNatClampNeg 0) 27 (x4.1 56).toNatClampNeg 0) 36 (x4.1 56).toNatClampNeg 0) 37 (x4.1 56).toNatClampNeg 0) 42 (x4.1 56).toNatClampNeg 0) 48 (x4.1 56).toNatClampNeg 0) 54 (x4.1 56).toNatClampNeg 0) 62 0) 63 0 ∧ FX [62, 63] [19, 27, 36, 37, 42, 48, 54] [] x4 x5 ∧ x5.2.2.1 19 s = 0 ∧ x5.2.2.1 27 s = 0 ∧ x5.2.2.1 36 s = 0 ∧ x5.2.2.1 37 s = 0 ∧ x5.2.2.1 42 s = 0 ∧ x5.2.2.1 48 s = 0 := by
      rw [n56]
      refine ⟨_, rfl, ((((((((FX.rf.sa (by decide)).sa (by decide)).sa (by decide)).sa (by decide)).sa (by decide)).sa (by decide)).sa (by decide)).si (by decide)).si (by decide), ?_, ?_, ?_, ?_, ?_, ?_⟩
      · show upd (x4.2.2.1 19) s 0 s = 0
        exact if_pos rfl
      · show upd (x4.2.2.1 27) s 0 s = 0
        exact if_pos rfl
      · show upd (x4.2.2.1 36) s 0 s = 0
        exact if_pos rfl
      · show upd (x4.2.2.1 37) s 0 s = 0
        exact if_pos rfl
      · show upd (x4.2.2.1 42) s 0 s = 0
        exact if_pos rfl
      · show upd (x4.2.2.1 48) s 0 s = 0
        exact if_pos rfl
    have d45 : sd s x4 x5 := by
      rw [hx5, n56]
      exact sd_A (sd_A (sd_A (sd_A (sd_A (sd_A (sd_A sd_rf (kA_1 (by decide) rfl)) (kA_1 (by decide) rfl)) (kA_1 (by decide) rfl)) (kA_1 (by decide) rfl)) (kA_1 (by decide) rfl)) (kA_1 (by decide) rfl)) ⟨fun h => absurd h (by decide), fun h => absurd h (by decide), fun h => absurd h (by decide), fun h => absurd h (by decide)⟩
    have x55' : x5.1 55 = x4.1 55 := f5.1 55 (by decide)
    have x62 : x5.1 62 = 0 ∧ x5.1 63 = 0 := by rw [hx5]; exact ⟨rfl, rfl⟩
    show pp (LP_load_123 N N (l2, 0, sI (sI (sA (sA (sA (sA (sA (sA (sA x4 19 (x4.1 56).toNatClampNeg 0) 27 (x4.1 56).toNatClampNeg 0) 36 (x4.1 56).toNatClampNeg 0) 37 (x4.1 56).toNatClampNeg 0) 42 (x4.1 56).toNatClampNeg 0) 48 (x4.1 56).toNatClampNeg 0) 54 (x4.1 56).toNatClampNeg 0) 62 0) 63 0)) _
    rw [← hx5]
    refine y_123 (fun x6 f6 h64 => ?_)
    refine pp_bn (pp_m (pp_and (pp_of (x_eight hN)) y_eight) (fun _ x7 hx7 => pp_bn ?_))
    obtain ⟨⟨f7, g61, g59⟩, g57⟩ := hx7
    unfold F_goThrough B_goThrough_0
    refine pp_zr (pp_pu (pp_pu (pp_pu (pp_pu (pp_pu (pp_bn ?_))))))
    have rowA : ∀ k, k ∉ wA → x7.2.2.1 k = x1.2.2.1 k := fun k h => by
      rw [f7.2.1 k (fun y => h (by simp only [List.mem_cons, List.not_mem_nil, or_false] at y; rcases y with rfl | rfl <;> decide)), f6.2.1 k (fun y => h (by simp only [List.mem_cons, List.not_mem_nil, or_false] at y; subst y; decide)), f5.2.1 k (fun y => h (by simp only [List.mem_cons, List.not_mem_nil, or_false] at y; rcases y with rfl | rfl | rfl | rfl | rfl | rfl | rfl <;> decide))]
      exact kA k h
    have rowB : ∀ k, k ∉ wB → x7.2.2.2 k = x1.2.2.2 k := fun k h => by
      rw [f7.2.2 k (fun y => h (by simp only [List.mem_cons, List.not_mem_nil, or_false] at y; rcases y with rfl | rfl <;> decide)), f6.2.2 k (fun y => nomatch y), f5.2.2 k (fun y => nomatch y)]
      exact kB k h
    have rowC : ∀ k, k ∈ [19, 27, 36, 37, 42, 48] → x7.2.2.1 k = x5.2.2.1 k := fun k h => by
      rw [f7.2.1 k (fun y => by simp only [List.mem_cons, List.not_mem_nil, or_false] at h y; omega), f6.2.1 k (fun y => by simp only [List.mem_cons, List.not_mem_nil, or_false] at h y; omega)]
    have sc : ∀ k, k ∉ [61, 62, 63] → x7.1 k = x4.1 k := fun k h => by
      rw [f7.1 k (fun y => h (by simp only [List.mem_cons, List.not_mem_nil, or_false] at y; subst y; decide)), f6.1 k (fun y => nomatch y), f5.1 k (fun y => h (by simp only [List.mem_cons, List.not_mem_nil, or_false] at y; rcases y with rfl | rfl <;> decide))]
    have s62 : x7.1 62 = 0 := by rw [f7.1 62 (by decide), f6.1 62 (fun y => nomatch y)]; exact x62.1
    have s63 : x7.1 63 = 0 := by rw [f7.1 63 (by decide), f6.1 63 (fun y => nomatch y)]; exact x62.2
    have r64 : ∀ k, k < 5 → x7.2.2.1 64 k = 0 := fun k hk => by rw [f7.2.1 64 (by decide)]; exact h64 k hk
    have a67 : x7.1 67 = 0 := by rw [sc 67 (by decide)]; exact z67
    have a56s : (x7.1 56).toInt = s := by rw [sc 56 (by decide), k56]; exact hs
    -- what both begin with
    have hE : EV1 z (sI (sI (sI (sI (sI x7 69 1) 65 0) 66 0) 70 0) 74 0) n := by
      refine ⟨⟨by rw [w4]; exact t1.1, t1.2.1, ?_⟩, ?_, fun i hi => ?_, ?_, ?_, by rw [mr2, mr3], by rw [m7]; exact c7⟩
      · show isEnd (cA z 203 n)
        rw [zA 203 (by decide)]
        exact t1.2.2
      · show RT (cA z 203) (x7.2.2.1 2) n
        rw [zA 203 (by decide), rowA 2 (by decide)]
        exact t2
      · show cA z 204 i = x7.2.2.1 3 i ∧ TKc (cA z 203 i) (cB z 205 i) (cA z 206 i) (x7.2.2.1 2 i) (x7.2.2.2 4 i) (x7.2.2.1 5 i) (x7.2.2.2 6 i) (x7.2.2.2 7 i)
        rw [zA 203 (by decide), zA 204 (by decide), zA 206 (by decide), zB, rowA 2 (by decide), rowA 3 (by decide), rowA 5 (by decide), rowB 4 (by decide), rowB 6 (by decide), rowB 7 (by decide)]
        exact t3 i hi
      · show cA z 204 n = x7.2.2.1 3 n
        rw [zA 204 (by decide), rowA 3 (by decide)]
        exact t4
      · show ¬ (1 : Int32) = 0
        decide
    have hT8 : TR8 z (sI (sI (sI (sI (sI x7 69 1) 65 0) 66 0) 70 0) 74 0) q := TR8_0 z8 hq g59 g57
    have hI : IG (tyF (xI v1 0 0)) q s n 0 z (sI (sI (sI (sI (sI x7 69 1) 65 0) 66 0) 70 0) 74 0) 0 := by
      refine ⟨0, 8, IT_0 hE (by rw [m5, e0]) (by rw [m13, e0]) m16 a67 e0 e0 e0 mp12 s62 g61 a56s hs2 hq mr2 mr3 hT8 (fun k hk => ?_) mp9 m228 r64 m12 s63, ⟨by rw [mp15]; decide, by show (0 : Int32) ≤ 1; decide⟩, ?_⟩
      · show x7.2.2.1 k s = 0
        rw [rowC k hk]
        simp only [List.mem_cons, List.not_mem_nil, or_false] at hk
        rcases hk with rfl | rfl | rfl | rfl | rfl | rfl
        · exact r19
        · exact r27
        · exact r36
        · exact r37
        · exact r42
        · exact r48
      · show cA z 203 = cA v1 203
        exact zA 203 (by decide)
    have d57 : sd s x5 x7 := sd_tr (sd_rows (fun k hk => f6.2.1 k (fun y => by simp only [List.mem_cons, List.not_mem_nil, or_false] at y; rw [y] at hk; exact absurd hk (by decide))) (fun k hk => f6.2.2 k (fun y => nomatch y))) (sd_rows (fun k hk => f7.2.1 k (fun y => by simp only [List.mem_cons, List.not_mem_nil, or_false] at y; rcases y with y | y <;> (rw [y] at hk; exact absurd hk (by decide)))) (fun k hk => f7.2.2 k (fun y => by simp only [List.mem_cons, List.not_mem_nil, or_false] at y; rcases y with y | y <;> (rw [y] at hk; exact absurd hk (by decide)))))
    have c0 : ∀ k, k ∈ [19, 27, 36, 37, 42, 48] → (x7.2.2.1 k s).toInt = 0 := fun k hk => by
      rw [rowC k hk]
      simp only [List.mem_cons, List.not_mem_nil, or_false] at hk
      rcases hk with rfl | rfl | rfl | rfl | rfl | rfl
      · rw [r19, e0]
      · rw [r27, e0]
      · rw [r36, e0]
      · rw [r37, e0]
      · rw [r42, e0]
      · rw [r48, e0]
    have cb : CB 0 s (sI (sI (sI (sI (sI x7 69 1) 65 0) 66 0) 70 0) 74 0) := by
      have i62 : (x7.1 62).toInt = 0 := by rw [s62, e0]
      have i19 := c0 19 (by decide)
      have i27 := c0 27 (by decide)
      have i36 := c0 36 (by decide)
      have i37 := c0 37 (by decide)
      have i42 := c0 42 (by decide)
      have i48 := c0 48 (by decide)
      exact ⟨⟨by show 0 ≤ (x7.2.2.1 19 s).toInt; omega, by show (x7.2.2.1 19 s).toInt + 0 ≤ (x7.1 62).toInt; omega⟩, ⟨by show 0 ≤ (x7.2.2.1 27 s).toInt; omega, by show (x7.2.2.1 27 s).toInt + 0 ≤ (x7.1 62).toInt; omega⟩, by show (x7.1 62).toInt ≤ 160; omega, ⟨by show 0 ≤ (x7.2.2.1 36 s).toInt; omega, by show (x7.2.2.1 36 s).toInt ≤ 8; omega⟩, ⟨by show 0 ≤ (x7.2.2.1 37 s).toInt; omega, by show (x7.2.2.1 37 s).toInt ≤ 16; omega⟩, ⟨by show 0 ≤ (x7.2.2.1 42 s).toInt; omega, by show (x7.2.2.1 42 s).toInt ≤ 24; omega⟩, ⟨by show 0 ≤ (x7.2.2.1 48 s).toInt; omega, by show (x7.2.2.1 48 s).toInt ≤ 8; omega⟩⟩
    have z55 : (sI (sI (sI (sI (sI x7 69 1) 65 0) 66 0) 70 0) 74 0).1 55 = u.1 55 := by
      show x7.1 55 = u.1 55
      rw [sc 55 (by decide), hk.1 55 (by decide) (by decide) (by decide)]
      exact x55
    have soZ : sso s0 u (sI (sI (sI (sI (sI x7 69 1) 65 0) 66 0) 70 0) 74 0) := sso_tr so1 (sso_tr (sso_sd htv.1 hne) (sso_sd (sd_tr d45 d57) hne))
    obtain ⟨d, hD⟩ := hD
    have hj : jx (LP_X3_make_57 N N (0, z)) (LP_text_0 N N (sI (sI (sI (sI (sI x7 69 1) 65 0) 66 0) 70 0) 74 0)) (IQ (tyF (xI v1 0 0)) q s n j2 0) := j_textT d 0 j2 0 z _ N N hD hI (Nat.zero_le _) (Nat.le_refl _)
    show pp (LP_text_0 N N (sI (sI (sI (sI (sI x7 69 1) 65 0) 66 0) 70 0) 74 0)) _
    refine pp_m (pp_and (pp_and (jx_l hj) (xx_text hs2 N _ ⟨sd_rf, a56s, fun _ => cb⟩)) (fun r w e => sk_LP_text_0 N _ r w e)) (fun r9 x9 h9 => pp_some ?_)
    obtain ⟨⟨h9, ht9⟩, hk9⟩ := h9
    have hk9 : kp (sI (sI (sI (sI (sI x7 69 1) 65 0) 66 0) 70 0) 74 0) x9 := hk9
    have hMk := pq_and (hM h9) (o_make (N := N) (q := q) (w := w))
    have so9 : sso s0 u x9 := sso_tr soZ (sso_sd ht9.1 hne)
    have x955 : x9.1 55 = u.1 55 := (hk9.1 55 (by decide) (by decide) (by decide)).trans z55
    have x956 : (x9.1 56).toInt = (s : Int) := ht9.2.1
    by_cases c : x9.1 67 = 0
    · refine pp_m (y_150t c) (fun _ z1 hz1 => pq_bh (pq_m hMk (fun y w2 hy => ⟨fun e => ?_, fun b e => ?_⟩)))
      · rcases hy.1 with ⟨-, n67, -⟩ | ⟨b, e', -⟩
        · exact absurd c n67
        · rw [e] at e'
          cases e'
      · rcases hy.1 with ⟨e', -⟩ | ⟨b', -, hQ⟩
        · rw [e] at e'
          cases e'
        · obtain ⟨⟨T, G, hIT, -⟩, -⟩ := hQ
          have hB := TBM_of hIT
          have o2 := hy.2.2.2.2
          refine pq_bc (pq_m (inst_T (N := N) (l1 := l1) (v := w2)) (fun r5 w5 h5 => pq_some (Or.inr ?_)))
          obtain ⟨i0, i1, i2, i3, i4, i5⟩ := h5
          have w20 : cR w2 0 = cR v 0 := (o2 0 (by decide) (by decide)).trans rw0
          have w21 : cR w2 1 = cR v 1 := (o2 1 (by decide) (by decide)).trans rw1
          refine ⟨i0.trans w21, i1.trans w20, by rw [hz1.1, x956, hse], T, ?_⟩
          rw [← hqv, ← hse]
          refine TBM_cong hB (fun y _ => ⟨fun k _ => by rw [i4], fun k => by rw [i5]⟩) (by rw [i2]) (fun k _ => by rw [i3]) (sso_rows hz1.2.1 hz1.2.2)
    · refine pp_m (y_150g c) (fun _ z1 hz1 => pq_bh (pq_m hMk (fun y w2 hy => ⟨fun e => pq_some (Or.inl ?_), fun b e => ?_⟩)))
      · obtain ⟨-, o1, o2, o3, o4⟩ := hy
        refine ⟨(o4 0 (by decide) (by decide)).trans rw0, (o4 1 (by decide) (by decide)).trans rw1, fun y hy => ?_, ?_, fun k hk => ?_, hz1.1.trans x955, sso_tr so9 (sso_2 hz1.2)⟩
        · have hm : (169 * cR v 0 + y) / 169 ≠ q := by rw [hqv]; omega
          refine ⟨fun k _ => (o2 _ hm k).1.trans ?_, fun k => (o2 _ hm k).2.trans ?_⟩
          · show w.2.2.2.2.2.2.2.2.1 _ k = v.2.2.2.2.2.2.2.2.1 _ k
            rw [tbw]
          · show w.2.2.2.2.2.2.2.2.2.1 _ k = v.2.2.2.2.2.2.2.2.2.1 _ k
            rw [tbw]
        · refine (o1 (cR v 0) (by rw [hqv]; exact h01) 12).1.trans ?_
          show w.2.2.2.2.1 _ 12 = v.2.2.2.2.1 _ 12
          rw [tbw]
        · refine (o1 (cR v 0) (by rw [hqv]; exact h01) k).2.1.trans ?_
          show w.2.2.2.2.2.1 _ k = v.2.2.2.2.2.1 _ k
          rw [tbw]
      · rcases hy.1 with ⟨e', -⟩ | ⟨b', -, hQ⟩
        · rw [e] at e'
          cases e'
        · obtain ⟨⟨T, G, hIT, -⟩, -⟩ := hQ
          exact absurd hIT.2.2.1.2.1 c
/-- what holds between two calls: the tables of what is installed -/
def J7 (v : CSt) (u : RSt) : Prop := J5 v u ∧ cR v 0 ≠ cR v 1 ∧ (cR v 0 < 2 ∧ cR v 1 < 2) ∧ ∃ s T, s < 2 ∧ (u.1 55).toInt = ((s : Nat) : Int) ∧ TBM v u (cR v 0) s T
theorem load_J7 {y r : Int32} (hN : 5000000000 ≤ N) (hJ : J7 v u) (h55 : 0 ≤ (u.1 55).toInt ∧ (u.1 55).toInt ≤ 1) (h9 : F_X11_load N l1 v = some (y, w)) (h8 : F_load N l2 u = some (r, x)) : J7 w x := by
  obtain ⟨j5, h01, hr2, s0, T, hs, h5, hT⟩ := hJ
  have hL : LDs v w u x s0 := load_more hN j5.1 h5 hs h01 hr2 _ _ h9 _ _ h8
  refine ⟨load_J hN j5 h55 h9 h8, ?_⟩
  rcases hL with ⟨a1, a2, a3, a4, a5, a6, a7⟩ | ⟨a1, a2, a3, T', a4⟩
  · refine ⟨by rw [a1, a2]; exact h01, by rw [a1, a2]; exact hr2, s0, T, hs, by rw [a6]; exact h5, ?_⟩
    rw [a1]
    exact TBM_cong hT a3 a4 a5 a7
  · refine ⟨by rw [a1, a2]; exact fun z => h01 z.symm, by rw [a1, a2]; exact ⟨hr2.2, hr2.1⟩, 1 - s0, T', by omega, a3, ?_⟩
    rw [a1]
    exact a4
theorem J7.jd (hJ : J7 v u) (h5 : J5 w x) (hc : jt v w) (hr : ju u x) : J7 w x := by
  obtain ⟨-, h01, hr2, s0, T, hs, h55, hT⟩ := hJ
  obtain ⟨a1, a2, ⟨a3, a4⟩, a5, a6⟩ := hc
  refine ⟨h5, by rw [a3, a4]; exact h01, by rw [a3, a4]; exact hr2, s0, T, hs, by rw [hr.1]; exact h55, ?_⟩
  rw [a3]
  exact TBM_cong hT (fun y _ => ⟨fun k _ => by rw [a5], fun k => by rw [a6]⟩) (by rw [a1]) (fun k _ => by rw [a2]) (sso_rows hr.2.1 hr.2.2)
theorem variable_J {y : Sum Nat Int32} {r : Int32} {M : Nat} (hJ : J7 v u) (h8 : F_variable M l1 l2 u = some (r, x)) (h9 : F_X11_variable N l1 l2 v = some (y, w)) : (y = .inl 3 ∧ x.1 9 = 1) ∨ (y = .inl 1 ∧ x.1 9 = 2) ∨ (y = .inr r ∧ x.1 9 = 0) := by
  obtain ⟨-, h01, hr2, s0, T, hs, h55, hT⟩ := hJ
  exact variable_same hT rfl h55 hs h8 h9
theorem poke_J {y : Sum Nat Int64} {r l3 : Int64} {M : Nat} (hJ : J7 v u) (h8 : F_poke M l1 l2 l3 u = some (r, x)) (h9 : F_X11_poke N l1 l2 l3 v = some (y, w)) : (y = .inl 3 ∧ x.1 9 = 1) ∨ (y = .inl 4 ∧ x.1 9 = 2) ∨ (y = .inr r ∧ x.1 9 = 0) := by
  obtain ⟨-, h01, hr2, s0, T, hs, h55, hT⟩ := hJ
  exact poke_same hT rfl h55 hs h8 h9
end Load4
