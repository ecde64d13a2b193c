/-! load: the same place (the whole). -/
section Load3
variable {v w : CSt} {u x : RSt} {N n q s : Nat} {l1 l2 : Int32}
theorem pI_a {k : Nat} {a : Int32} : pI (xpI v q k a) q k = a := by
  show (if q = q then (if k = k then a else _) else _) = a
  rw [if_pos rfl, if_pos rfl]
theorem pI_n {j k : Nat} {a : Int32} (h : j ≠ k) : pI (xpI v q k a) q j = pI v q j := by
  show (if q = q then (if j = k then a else pI v q j) else _) = _
  rw [if_pos rfl, if_neg h]
theorem mx_I {k : Nat} {a : Int32} : mI (xI v k a) = mI v ∧ mL (xI v k a) = mL v := ⟨rfl, rfl⟩
theorem mx_F {k : Nat} {g : Nat → Int32} : mI (xF v k g) = mI v ∧ mL (xF v k g) = mL v := ⟨rfl, rfl⟩
theorem mx_R {k a : Nat} : mI (xR v k a) = mI v ∧ mL (xR v k a) = mL v := ⟨rfl, rfl⟩
theorem mx_pI {k : Nat} {a : Int32} : mI (xpI v q k a) = mI v ∧ mL (xpI v q k a) = mL v := ⟨rfl, rfl⟩
theorem mx_pF {k : Nat} {g : Nat → Int32} : mI (xpF v q k g) = mI v ∧ mL (xpF v q k g) = mL v := ⟨rfl, rfl⟩
/-- what making begins with -/
def MK0 (q : Nat) (w z : CSt) : Prop := cI z 5 = 0 ∧ cI z 13 = 0 ∧ cI z 16 = 0 ∧ cI z 12 = 0 ∧ cI z 4 = cI w 4 ∧ cI z 7 = cI w 7 ∧ pI z q 12 = 0 ∧ pI z q 15 = -1 ∧ cR z 2 = q ∧ cR z 3 = q ∧ (∀ k, k ≠ 228 → cA z k = cA w k) ∧ cB z 205 = cB w 205 ∧ (∀ k, k < 5 → pA z q 9 k = 0) ∧ (∀ k, k < 5 → cA z 228 k = 0) ∧ n8s w z
theorem make_0 : ∃ z, MK0 q w z ∧ ∀ {Q : Sum Nat Int32 → CSt → Prop}, pq (LP_X3_make_57 N N (0, z)) Q → pq (F_X3_make N q w) Q := by
  refine ⟨xI (xI (xI (xI (xI (xF (xI (xR (xpF (xpI (xpI (xpI (xpI (xR w 2 q) q 12 0) q 13 0) q 14 0) q 15 (-1)) q 9 (fl (pA (xpI (xpI (xpI (xpI (xR w 2 q) q 12 0) q 13 0) q 14 0) q 15 (-1)) q 9) 0 5)) 3 q) 16 0) 228 (fl (cA (xI (xR (xpF (xpI (xpI (xpI (xpI (xR w 2 q) q 12 0) q 13 0) q 14 0) q 15 (-1)) q 9 (fl (pA (xpI (xpI (xpI (xpI (xR w 2 q) q 12 0) q 13 0) q 14 0) q 15 (-1)) q 9) 0 5)) 3 q) 16 0) 228) 0 5)) 12 0) 13 0) 14 (-1)) 15 (-1)) 5 0, ⟨rfl, rfl, rfl, rfl, rfl, rfl, ?_, ?_, rfl, rfl, fun k hk => ?_, rfl, fun k hk => ?_, fun k hk => ?_, fun _ _ _ => ⟨?_, ?_⟩⟩, fun {Q} h => ?_⟩
  · show pI (xpI (xpI (xpI (xpI (xR w 2 q) q 12 0) q 13 0) q 14 0) q 15 (-1)) q 12 = 0
    rw [pI_n (by decide), pI_n (by decide), pI_n (by decide), pI_a]
  · show pI (xpI (xpI (xpI (xpI (xR w 2 q) q 12 0) q 13 0) q 14 0) q 15 (-1)) q 15 = -1
    rw [pI_a]
  · show (if k = 228 then _ else cA w k) = _
    rw [if_neg hk]
  · show (if q = q then (if 9 = 9 then fl _ 0 5 else _) else _) k = 0
    rw [if_pos rfl, if_pos rfl]
    show (if k < 5 then 0 else _) = (0 : Int32)
    rw [if_pos hk]
  · show (if k < 5 then 0 else _) = (0 : Int32)
    rw [if_pos hk]
  · rw [mx_I.1, mx_I.1, mx_I.1, mx_I.1, mx_I.1, mx_F.1, mx_I.1, mx_R.1, mx_pF.1, mx_pI.1, mx_pI.1, mx_pI.1, mx_pI.1, mx_R.1]
  · rw [mx_I.2, mx_I.2, mx_I.2, mx_I.2, mx_I.2, mx_F.2, mx_I.2, mx_R.2, mx_pF.2, mx_pI.2, mx_pI.2, mx_pI.2, mx_pI.2, mx_R.2]
  · unfold F_X3_make B_X3_make_0 F_X6_empty B_X6_empty_0 F_X8_begin B_X8_begin_0 F_X9_rewind B_X9_rewind_0
    exact pq_pc (pq_ok (fun _ => pq_bc (pq_pc (pq_pc (pq_pc (pq_pc (pq_pc (pq_some (pq_bc (pq_pc (pq_pc (pq_some (pq_pc (pq_pc (pq_pc (pq_pc (pq_pc (pq_bc (pq_pc (pq_some h))))))))))))))))))))
/-- the reference's state before the second pass -/
theorem load_place (hN : 5000000000 ≤ N) (hJ : J4 v u) (h55 : 0 ≤ (u.1 55).toInt ∧ (u.1 55).toInt ≤ 1) : pq (F_X11_load N l1 v) (fun _ w => pp (F_load N l2 u) (fun _ x => cI w 7 = x.1 106)) := by
  have e0 : (0 : Int32).toInt = 0 := by decide
  have e1 : (1 : Int32).toInt = 1 := by decide
  obtain ⟨hW, h8, by_, len, hY, h0, hb, hR⟩ := hJ
  have hR9 : BR by_ len (sI u 9 0) := ⟨hR.1, hR.2⟩
  unfold F_X11_load
  refine pq_bc (pq_m (read_same (N := N) hY h0 hb hW hR9) (fun _ v1 hv1 => pq_pc ?_))
  refine pq_sw ?_
  unfold F_load B_load_0
  refine pp_pu (pp_bn (pp_m hv1 (fun _ x1 hx1 => ?_)))
  obtain ⟨hcut, h7, hrf, hrd⟩ := hx1
  refine pp_pu (pp_pu (pp_pu ?_))
  have x55 : x1.1 55 = u.1 55 := (hrf.1 55 (by decide)).trans rfl
  obtain ⟨s, hs, hs2⟩ : ∃ s : Nat, (1 - x1.1 55).toInt = s ∧ s < 2 := by
    have h1 := h55.1
    have h2 := h55.2
    rw [← x55] at h1 h2
    have e : (1 - x1.1 55).toInt = 1 - (x1.1 55).toInt := by rw [tI_sub (by rw [e1]; omega) (by rw [e1]; omega), e1]
    exact ⟨(1 - (x1.1 55).toInt).toNat, by rw [e]; omega, by omega⟩
  obtain ⟨n, t1, t2, t3, t4⟩ := hcut
  have h8v : CB8 v1 := h8.fr (fun m k _ => by
    have e := hrd.2.2.2
    exact ⟨by show v1.2.2.2.2.2.2.2.2.1 m k = v.2.2.2.2.2.2.2.2.1 m k; rw [e], by show v1.2.2.2.2.2.2.2.2.2.1 m k = v.2.2.2.2.2.2.2.2.2.1 m k; rw [e]⟩)
  generalize h56 : 1 - x1.1 55 = a56 at hs ⊢
  -- the class: the first pass
  refine pp_sw ?_
  have hc3 : CUT (xI v1 0 0) (sI (sI (sI (sI (sI (sI (sI (sI x1 56 a56) 67 0) 68 (-1)) 69 0) 65 0) 66 0) 70 0) 74 0) := ⟨n, t1, t2, t3, t4⟩
  have hP := pq_and (pq_and (pq_of (pass1 (N := N) hc3 (by omega) rfl rfl rfl rfl)) (pq_of (oc_check (N := N) (u := xI v1 0 0) (n := n) t1 (by omega)))) (show pq (F_X0_check N (xI v1 0 0)) (fun y w => isl y ∨ w.1 7 = (xI v1 0 0).1 7) from k7_F_X0_check)
  refine pq_bh (pq_m hP (fun y w hy => ⟨fun ey => pq_some ?_, fun b ey => pq_ok (fun hq => ?_)⟩))
  · -- refused by the first pass
    obtain ⟨⟨hp, -⟩, -⟩ := hy
    refine pp_bn ?_
    unfold F_goThrough B_goThrough_0
    refine pp_zr (pp_pu (pp_pu (pp_pu (pp_pu (pp_pu (pp_bn (pp_m hp (fun _ x4 hx4 => pp_some ?_))))))))
    rcases hx4 with ⟨-, n67, -, k68⟩ | ⟨r, j, e, -⟩
    · rw [if_neg n67]
      exact pp_m (y_150f n67) (fun _ z hz => by rw [hz]; exact k68.symm)
    · rw [ey] at e
      cases e
  · -- the second pass
    obtain ⟨⟨hp, hoc⟩, hk7⟩ := hy
    have c7 : cI w 7 = -1 := by
      rcases hk7 with ⟨p, e⟩ | e
      · rw [ey] at e
        cases e
      · exact e.trans h7
    have hGO : GO (xI v1 0 0) w := by
      rcases hoc with ⟨p, -, -, e, -⟩ | ⟨r, j, -, -, -, g⟩
      · rw [ey] at e
        cases e
      · exact g.1
    generalize hqe : cR w 1 = q at hq ⊢
    obtain ⟨z, ⟨m5, m13, m16, m12, m4, m7, mp12, mp15, mr2, mr3, mA, mB, mp9, m228, mn⟩, hM⟩ := make_0 (N := N) (q := q) (w := w)
    have w4 : cI z 4 = cI v1 4 := m4.trans ((hGO.2 4 (by decide) (by decide) (by decide) (by decide)).trans rfl)
    have zA : ∀ k, k ≠ 228 → cA z k = cA v1 k := fun k hk => (mA k hk).trans (by show w.2.2.1 k = v1.2.2.1 k; rw [hGO.1]; rfl)
    have zB : cB z 205 = cB v1 205 := mB.trans (by show w.2.2.2.1 205 = v1.2.2.2.1 205; rw [hGO.1]; rfl)
    have z8 : CB8 z := (h8v.fr (w := w) (fun m k _ => by
      exact ⟨by show w.2.2.2.2.2.2.2.2.1 m k = v1.2.2.2.2.2.2.2.2.1 m k; rw [hGO.1]; rfl, by show w.2.2.2.2.2.2.2.2.2.1 m k = v1.2.2.2.2.2.2.2.2.2.1 m k; rw [hGO.1]; rfl⟩)).fr mn
    refine pq_sw (pp_bn ?_)
    unfold F_goThrough B_goThrough_0
    refine pp_zr (pp_pu (pp_pu (pp_pu (pp_pu (pp_pu (pp_bn (pp_m (pp_and hp (fun r w e => sk_F_text r w e)) (fun _ x4 hx4 => pp_some ?_))))))))
    obtain ⟨h4, hk⟩ := hx4
    have hk : kp (sI (sI (sI (sI (sI (sI (sI (sI x1 56 a56) 67 0) 68 (-1)) 69 0) 65 0) 66 0) 70 0) 74 0) x4 := hk
    obtain ⟨j2, z67, hD⟩ : ∃ j, x4.1 67 = 0 ∧ dText (tyF (xI v1 0 0)) 0 (.inr j) := by
      rcases h4 with ⟨e, -⟩ | ⟨r, j, -, g1, g2⟩
      · rw [ey] at e
        cases e
      · exact ⟨j, g1, g2⟩
    have k56 : x4.1 56 = a56 := (hk.1 56 (by decide) (by decide) (by decide)).trans rfl
    have kA : ∀ k, k ∉ wA → x4.2.2.1 k = x1.2.2.1 k := fun k h => (hk.2.1 k h).trans rfl
    have kB : ∀ k, k ∉ wB → x4.2.2.2 k = x1.2.2.2 k := fun k h => (hk.2.2.1 k h).trans rfl
    rw [if_pos z67]
    refine pp_wr (pp_wr (pp_wr (pp_wr (pp_wr (pp_wr (pp_wr (pp_pu (pp_pu ?_))))))))
    have n56 : (x4.1 56).toNatClampNeg = s := by rw [k56]; show a56.toInt.toNat = s; omega
    obtain ⟨x5, hx5, f5, r19, r27, r36, r37, r42, r48⟩ : ∃ x5, x5 = sI (sI (sA (sA (sA (sA (sA (sA (sA x4 19 (x4.1 56).toNatClampNeg 0) 27 (x4.1 56).toNatClampNeg 0) 36 (x4.1 56).toNatClampNeg 0) 37 (x4.1 56).toNatClampNeg 0) 42 (x4.1 56).toNatClampNeg 0) 48 (x4.1 56).toNatClampNeg 0) 54 (x4.1 56).toNatClampNeg 0) 62 0) 63 0 ∧ FX [62, 63] [19, 27, 36, 37, 42, 48, 54] [] x4 x5 ∧ x5.2.2.1 19 s = 0 ∧ x5.2.2.1 27 s = 0 ∧ x5.2.2.1 36 s = 0 ∧ x5.2.2.1 37 s = 0 ∧ x5.2.2.1 42 s = 0 ∧ x5.2.2.1 48 s = 0 := by
      rw [n56]
      refine ⟨_, rfl, ((((((((FX.rf.sa (by decide)).sa (by decide)).sa (by decide)).sa (by decide)).sa (by decide)).sa (by decide)).sa (by decide)).si (by decide)).si (by decide), ?_, ?_, ?_, ?_, ?_, ?_⟩
      · show upd (x4.2.2.1 19) s 0 s = 0
        exact if_pos rfl
      · show upd (x4.2.2.1 27) s 0 s = 0
        exact if_pos rfl
      · show upd (x4.2.2.1 36) s 0 s = 0
        exact if_pos rfl
      · show upd (x4.2.2.1 37) s 0 s = 0
        exact if_pos rfl
      · show upd (x4.2.2.1 42) s 0 s = 0
        exact if_pos rfl
      · show upd (x4.2.2.1 48) s 0 s = 0
        exact if_pos rfl
    have x62 : x5.1 62 = 0 ∧ x5.1 63 = 0 := by rw [hx5]; exact ⟨rfl, rfl⟩
    show pp (LP_load_123 N N (l2, 0, sI (sI (sA (sA (sA (sA (sA (sA (sA x4 19 (x4.1 56).toNatClampNeg 0) 27 (x4.1 56).toNatClampNeg 0) 36 (x4.1 56).toNatClampNeg 0) 37 (x4.1 56).toNatClampNeg 0) 42 (x4.1 56).toNatClampNeg 0) 48 (x4.1 56).toNatClampNeg 0) 54 (x4.1 56).toNatClampNeg 0) 62 0) 63 0)) _
    rw [← hx5]
    refine y_123 (fun x6 f6 h64 => ?_)
    refine pp_bn (pp_m (pp_and (pp_of (x_eight hN)) y_eight) (fun _ x7 hx7 => pp_bn ?_))
    obtain ⟨⟨f7, g61, g59⟩, g57⟩ := hx7
    unfold F_goThrough B_goThrough_0
    refine pp_zr (pp_pu (pp_pu (pp_pu (pp_pu (pp_pu (pp_bn ?_))))))
    have rowA : ∀ k, k ∉ wA → x7.2.2.1 k = x1.2.2.1 k := fun k h => by
      rw [f7.2.1 k (fun y => h (by simp only [List.mem_cons, List.not_mem_nil, or_false] at y; rcases y with rfl | rfl <;> decide)), f6.2.1 k (fun y => h (by simp only [List.mem_cons, List.not_mem_nil, or_false] at y; subst y; decide)), f5.2.1 k (fun y => h (by simp only [List.mem_cons, List.not_mem_nil, or_false] at y; rcases y with rfl | rfl | rfl | rfl | rfl | rfl | rfl <;> decide))]
      exact kA k h
    have rowB : ∀ k, k ∉ wB → x7.2.2.2 k = x1.2.2.2 k := fun k h => by
      rw [f7.2.2 k (fun y => h (by simp only [List.mem_cons, List.not_mem_nil, or_false] at y; rcases y with rfl | rfl <;> decide)), f6.2.2 k (fun y => nomatch y), f5.2.2 k (fun y => nomatch y)]
      exact kB k h
    have rowC : ∀ k, k ∈ [19, 27, 36, 37, 42, 48] → x7.2.2.1 k = x5.2.2.1 k := fun k h => by
      rw [f7.2.1 k (fun y => by simp only [List.mem_cons, List.not_mem_nil, or_false] at h y; omega), f6.2.1 k (fun y => by simp only [List.mem_cons, List.not_mem_nil, or_false] at h y; omega)]
    have sc : ∀ k, k ∉ [61, 62, 63] → x7.1 k = x4.1 k := fun k h => by
      rw [f7.1 k (fun y => h (by simp only [List.mem_cons, List.not_mem_nil, or_false] at y; subst y; decide)), f6.1 k (fun y => nomatch y), f5.1 k (fun y => h (by simp only [List.mem_cons, List.not_mem_nil, or_false] at y; rcases y with rfl | rfl <;> decide))]
    have s62 : x7.1 62 = 0 := by rw [f7.1 62 (by decide), f6.1 62 (fun y => nomatch y)]; exact x62.1
    have s63 : x7.1 63 = 0 := by rw [f7.1 63 (by decide), f6.1 63 (fun y => nomatch y)]; exact x62.2
    have r64 : ∀ k, k < 5 → x7.2.2.1 64 k = 0 := fun k hk => by rw [f7.2.1 64 (by decide)]; exact h64 k hk
    have a67 : x7.1 67 = 0 := by rw [sc 67 (by decide)]; exact z67
    have a56s : (x7.1 56).toInt = s := by rw [sc 56 (by decide), k56]; exact hs
    -- what both begin with
    have hE : EV1 z (sI (sI (sI (sI (sI x7 69 1) 65 0) 66 0) 70 0) 74 0) n := by
      refine ⟨⟨by rw [w4]; exact t1.1, t1.2.1, ?_⟩, ?_, fun i hi => ?_, ?_, ?_, by rw [mr2, mr3], by rw [m7]; exact c7⟩
      · show isEnd (cA z 203 n)
        rw [zA 203 (by decide)]
        exact t1.2.2
      · show RT (cA z 203) (x7.2.2.1 2) n
        rw [zA 203 (by decide), rowA 2 (by decide)]
        exact t2
      · show cA z 204 i = x7.2.2.1 3 i ∧ TKc (cA z 203 i) (cB z 205 i) (cA z 206 i) (x7.2.2.1 2 i) (x7.2.2.2 4 i) (x7.2.2.1 5 i) (x7.2.2.2 6 i) (x7.2.2.2 7 i)
        rw [zA 203 (by decide), zA 204 (by decide), zA 206 (by decide), zB, rowA 2 (by decide), rowA 3 (by decide), rowA 5 (by decide), rowB 4 (by decide), rowB 6 (by decide), rowB 7 (by decide)]
        exact t3 i hi
      · show cA z 204 n = x7.2.2.1 3 n
        rw [zA 204 (by decide), rowA 3 (by decide)]
        exact t4
      · show ¬ (1 : Int32) = 0
        decide
    have hT8 : TR8 z (sI (sI (sI (sI (sI x7 69 1) 65 0) 66 0) 70 0) 74 0) q := TR8_0 z8 hq g59 g57
    have hI : IG (tyF (xI v1 0 0)) q s n 0 z (sI (sI (sI (sI (sI x7 69 1) 65 0) 66 0) 70 0) 74 0) 0 := by
      refine ⟨0, 8, IT_0 hE (by rw [m5, e0]) (by rw [m13, e0]) m16 a67 e0 e0 e0 mp12 s62 g61 a56s hs2 hq mr2 mr3 hT8 (fun k hk => ?_) mp9 m228 r64 m12 s63, ⟨by rw [mp15]; decide, by show (0 : Int32) ≤ 1; decide⟩, ?_⟩
      · show x7.2.2.1 k s = 0
        rw [rowC k hk]
        simp only [List.mem_cons, List.not_mem_nil, or_false] at hk
        rcases hk with rfl | rfl | rfl | rfl | rfl | rfl
        · exact r19
        · exact r27
        · exact r36
        · exact r37
        · exact r42
        · exact r48
      · show cA z 203 = cA v1 203
        exact zA 203 (by decide)
    obtain ⟨d, hD⟩ := hD
    have hj : jx (LP_X3_make_57 N N (0, z)) (LP_text_0 N N (sI (sI (sI (sI (sI x7 69 1) 65 0) 66 0) 70 0) 74 0)) (IQ (tyF (xI v1 0 0)) q s n j2 0) := j_textT d 0 j2 0 z _ N N hD hI (Nat.zero_le _) (Nat.le_refl _)
    show pp (LP_text_0 N N (sI (sI (sI (sI (sI x7 69 1) 65 0) 66 0) 70 0) 74 0)) _
    refine pp_m (jx_l hj) (fun r9 x9 h9 => pp_some ?_)
    have hMk := hM h9
    by_cases c : x9.1 67 = 0
    · refine pp_m (y_150s c) (fun _ z1 hz1 => pq_bh (pq_m hMk (fun y w2 hy => ⟨fun e => ?_, fun b e => ?_⟩)))
      · rcases hy with ⟨-, n67, -⟩ | ⟨b, e', -⟩
        · exact absurd c n67
        · rw [e] at e'
          cases e'
      · rcases hy with ⟨e', -⟩ | ⟨b', -, hQ⟩
        · rw [e] at e'
          cases e'
        · obtain ⟨⟨T, G, hIT, -⟩, -⟩ := hQ
          have k7 : cI w2 7 = -1 := hIT.1.2.2.2.2.2.2
          refine pq_bc (fun r5 w5 e5 => pq_some ?_)
          rw [hz1]
          exact ((kj_F_X11_install _ _ e5).2.1).trans k7
    · refine pp_m (y_150f c) (fun _ z1 hz1 => pq_bh (pq_m hMk (fun y w2 hy => ⟨fun e => ?_, fun b e => ?_⟩)))
      · rcases hy with ⟨-, -, k68⟩ | ⟨b, e', -⟩
        · rw [hz1]
          exact pq_some k68.symm
        · rw [e] at e'
          cases e'
      · rcases hy with ⟨e', -⟩ | ⟨b', -, hQ⟩
        · rw [e] at e'
          cases e'
        · obtain ⟨⟨T, G, hIT, -⟩, -⟩ := hQ
          exact absurd hIT.2.2.1.2.1 c
end Load3
