/-! hasPlace, poke: class and reference alike, from the tables of what is installed. -/
section Poke
variable {v w : CSt} {u x : RSt} {q s T N M y k : Nat} {l1 l2 : Int32} {l3 : Int64}
theorem gl0 {m : Nat} (h : mI v m 2 = 0) : gl v m := by
  unfold gl
  rw [h]
  decide
/-- the variable l1 of both: the class's name y, the reference's row k -/
def VY (v : CSt) (u : RSt) (q s T y k : Nat) (l1 l2 : Int32) : Prop := y < T ∧ mI v (169 * q + y) 2 = 0 ∧ (k : Int) = l1.toInt ∧ (mI v (169 * q + y) 4).toInt = (k : Int) ∧ k < 160 ∧ (160 * u.1 55 + l1).toNatClampNeg = 160 * s + k ∧ 0 ≤ l2.toInt ∧ l2.toInt < (mI v (169 * q + y) 7).toInt ∧ TRv1 v u q s y ∧ TRq1 v u q s y
theorem hasP_T (h : TBM v u q s T) (hq : cR v 0 = q) (h55 : (u.1 55).toInt = (s : Int)) (hs : s < 2) : pq (F_X11_hasPlace N l1 l2 v) (fun r w => w = v ∧ pp (F_hasPlace M l1 l2 u) (fun r' x => (r = 0 ∧ r' = 0 ∧ x.1 9 = 1) ∨ (r = 1 ∧ r' = 1 ∧ x = sI u 9 0 ∧ ∃ y k, VY v u q s T y k l1 l2 ∧ ∀ N', pq (F_X6_nth N' q 0 l1 v) (fun r w => w = v ∧ r = 169 * q + y)))) := by
  have c := h.2.2.2.2.2.2.1
  unfold CTN at c
  obtain ⟨c1, -, -, -, -, ⟨d1, d2⟩, -⟩ := c
  have hT := h.2.1
  have e0 : (0 : Int32).toInt = 0 := by decide
  have e160 : (160 : Int32).toInt = ((160 : Nat) : Int) := by decide
  have ref := y_hasV (N := M) (l1 := l1) h55 d1 (by omega)
  unfold F_X11_hasPlace B_X11_hasPlace_0
  refine pq_ok (fun _ => ?_)
  rw [hq]
  refine pq_bc (pq_m k_has0 (fun r w hw => ?_))
  obtain ⟨e, hr⟩ := hw
  rw [e]
  rcases hr with ⟨hl, hr⟩ | ⟨n, hr⟩
  · rw [hr, if_neg (by decide)]
    have hl' : 0 ≤ l1.toInt ∧ l1.toInt < (u.2.2.1 19 s).toInt := by rw [← c1]; exact hl
    obtain ⟨y, y1, y2, y3, -⟩ := k_nth0 (N := 0) h hl
    have hn : ∀ N', pq (F_X6_nth N' q 0 l1 v) (fun r w => w = v ∧ r = 169 * q + y) := by
      intro N'
      obtain ⟨y', z1, z2, z3, z4⟩ := k_nth0 (N := N') h hl
      have ey : y' = y := by
        have a1 := (h.2.2.2.2.2.1.1 y y1 (gl0 y2)).2
        have a2 := (h.2.2.2.2.2.1.1 y' z1 (gl0 z2)).2
        have n4 : (mI v (169 * q + y') 4).toNatClampNeg = (mI v (169 * q + y) 4).toNatClampNeg := by
          show (mI v (169 * q + y') 4).toInt.toNat = (mI v (169 * q + y) 4).toInt.toNat
          rw [y3, z3]
        rw [z2, n4] at a2
        rw [y2] at a1
        omega
      rw [← ey]
      exact z4
    obtain ⟨k, k1, k2, k3, k4, k5⟩ := id (h.2.2.2.2.1 y y1 y2)
    have kq := h.2.2.2.2.2.2.2.1 y y1 y2
    have ek : (k : Int) = l1.toInt := by rw [← k1, y3]
    have ix : (160 * u.1 55 + l1).toNatClampNeg = 160 * s + k := by
      have := (ix_s e160 (by omega) (by omega) h55 hs hl'.1 (by omega)).2
      show (160 * u.1 55 + l1).toInt.toNat = 160 * s + k
      omega
    have s1 := kq.1
    have s2 := kq.2.1
    -- the reference
    have rf : pp (F_hasPlace M l1 l2 u) (fun r' x => (¬ (0 ≤ l2.toInt ∧ l2.toInt < (mI v (169 * q + y) 7).toInt) ∧ r' = 0 ∧ x.1 9 = 1) ∨ ((0 ≤ l2.toInt ∧ l2.toInt < (mI v (169 * q + y) 7).toInt) ∧ r' = 1 ∧ x = sI u 9 0)) := by
      unfold F_hasPlace B_hasPlace_0 B_hasPlace_38
      refine pp_bn (pp_m ref (fun r x hx => ?_))
      rcases hx with ⟨-, e1, e2⟩ | ⟨n, -⟩
      · rw [e1, e2, if_neg (by decide)]
        refine pp_rd ?_
        have er : (sI u 9 0).2.2.1 11 (160 * ((sI u 9 0).1 55) + l1).toNatClampNeg = mI v (169 * q + y) 7 := by
          show u.2.2.1 11 (160 * u.1 55 + l1).toNatClampNeg = _
          rw [ix]
          exact k4
        rw [er]
        rcases rin0 (l := l2) (m := mI v (169 * q + y) 7) (by omega) (by omega) with ⟨a1, a2⟩ | ⟨a1, a2⟩
        · rw [if_pos a1]
          refine pp_pu ?_
          rw [if_neg (show ¬ (sI (sI u 9 0) 9 1).1 9 = 0 by show ¬ (1 : Int32) = 0; decide)]
          exact pp_some (Or.inl ⟨a2, rfl, rfl⟩)
        · rw [if_neg (by rw [a1]; decide), if_pos (show (sI u 9 0).1 9 = 0 from rfl)]
          exact pp_some (Or.inr ⟨a2, rfl, rfl⟩)
      · exact absurd hl' n
    refine pq_if (fun z => pq_some ⟨rfl, pp_m rf (fun r' x hx => ?_)⟩) (fun z => ?_)
    · have := Int32.lt_iff_toInt_lt.mp z
      rcases hx with ⟨a1, a2, a3⟩ | ⟨a1, -⟩
      · exact Or.inl ⟨rfl, a2, a3⟩
      · omega
    · rw [hq]
      refine pq_ok (fun _ => pq_bc (pq_m (hn N) (fun r5 w5 h5 => pq_ok (fun _ => ?_))))
      rw [h5.1, h5.2]
      have z' : 0 ≤ l2.toInt := Int.not_lt.mp (fun y => z (Int32.lt_iff_toInt_lt.mpr (by rw [e0]; exact y)))
      refine pq_if (fun z2 => pq_some ⟨rfl, pp_m rf (fun r' x hx => ?_)⟩) (fun z2 => pq_some ⟨rfl, pp_m rf (fun r' x hx => ?_)⟩)
      · have := Int32.le_iff_toInt_le.mp z2
        rcases hx with ⟨a1, a2, a3⟩ | ⟨a1, -⟩
        · exact Or.inl ⟨rfl, a2, a3⟩
        · omega
      · have z3 : l2.toInt < (mI v (169 * q + y) 7).toInt := Int.not_le.mp (fun y => z2 (Int32.le_iff_toInt_le.mpr y))
        rcases hx with ⟨a1, -⟩ | ⟨a1, a2, a3⟩
        · exact absurd ⟨z', z3⟩ a1
        · exact Or.inr ⟨rfl, a2, a3, y, k, ⟨y1, y2, ek, k1, k2, ix, z', z3, h.2.2.2.2.1 y y1 y2, kq⟩, hn⟩
  · rw [hr, if_pos rfl]
    refine pq_some ⟨rfl, ?_⟩
    unfold F_hasPlace B_hasPlace_0 B_hasPlace_38
    refine pp_bn (pp_m ref (fun r x hx => ?_))
    rcases hx with ⟨z, -⟩ | ⟨-, e1, e2⟩
    · exact absurd (by rw [c1]; exact z) n
    · rw [e1, e2, if_pos rfl, if_neg (show ¬ (sI u 9 1).1 9 = 0 by show ¬ (1 : Int32) = 0; decide)]
      exact pp_some (Or.inl ⟨rfl, rfl, rfl⟩)
/-- whether a variable lies in an image -/
theorem ks_placed {m : Nat} {β : Type} {Q : β → CSt → Prop} {kk : Int32 → CSt → Option (β × CSt)} (h2 : mI v m 2 = 0) (k1 : (mI v m 6 = 2 ∨ mI v m 6 = 3) → pq (kk 1 v) Q) (k0 : ¬ (mI v m 6 = 2 ∨ mI v m 6 = 3) → pq (kk 0 v) Q) : pq (bc (F_X4_isPlaced N m v) kk) Q := by
  refine pq_bc ?_
  unfold F_X4_isPlaced B_X4_isPlaced_0 B_X4_isPlaced_23
  rw [if_pos h2]
  exact pq_if (fun z => pq_some (k1 (Or.inl z))) (fun z => pq_if (fun z2 => pq_some (k1 (Or.inr z2))) (fun z2 => pq_some (k0 (fun r => r.elim z z2))))
theorem ks_input {m : Nat} {β : Type} {Q : β → CSt → Prop} {kk : Int32 → CSt → Option (β × CSt)} (h2 : mI v m 2 = 0) (k1 : mI v m 6 = 2 → pq (kk 1 v) Q) (k0 : ¬ mI v m 6 = 2 → pq (kk 0 v) Q) : pq (bc (F_X4_isInput N m v) kk) Q := by
  refine pq_bc ?_
  unfold F_X4_isInput B_X4_isInput_0
  rw [if_pos h2]
  exact pq_if (fun z => pq_some (k1 z)) (fun z => pq_some (k0 z))
theorem nb_64 {kd : Int32} (h : KD kd) : (64 - r_bits kd / 8).toInt = 64 - (nb kd : Int) := by
  rcases h with rfl | rfl | rfl | rfl | rfl <;> decide
theorem poke_T (h : TBM v u q s T) (hq : cR v 0 = q) (h55 : (u.1 55).toInt = (s : Int)) (hs : s < 2) : pq (F_X11_poke N l1 l2 l3 v) (fun y w => pp (F_poke M l1 l2 l3 u) (fun r x => (y = .inl 3 ∧ x.1 9 = 1) ∨ (y = .inl 4 ∧ x.1 9 = 2) ∨ (y = .inr r ∧ x.1 9 = 0))) := by
  have e0 : (0 : Int32).toInt = 0 := by decide
  have e2 : (2 : Int32).toInt = 2 := by decide
  have e5 : (5000 : Int32).toInt = 5000 := by decide
  have e6 : (6000 : Int32).toInt = 6000 := by decide
  have e64 : (64 : Int32).toInt = 64 := by decide
  unfold F_X11_poke B_X11_poke_0
  refine pq_bc (pq_m (hasP_T (M := M) h hq h55 hs) (fun r w hw => ?_))
  obtain ⟨e, hp⟩ := hw
  rw [e]
  unfold F_poke B_poke_0
  by_cases r0 : r = 0
  · rw [if_pos r0]
    refine pq_some (pp_bn (pp_m hp (fun r' x hx => ?_)))
    rcases hx with ⟨-, a2, a3⟩ | ⟨a1, -⟩
    · rw [a2, if_pos rfl]
      exact pp_some (Or.inl ⟨rfl, a3⟩)
    · rw [a1] at r0
      exact absurd r0 (by decide)
  · rw [if_neg r0]
    refine pq_sw ?_
    refine pp_bn (pp_m hp (fun r' x hx => ?_))
    rcases hx with ⟨a1, -⟩ | ⟨-, a2, a3, y, k, ⟨y1, y2, y3, y4, y5, y6, y7, y8, yv, yq⟩, hn⟩
    · exact absurd a1 r0
    rw [a2, a3, if_neg (by decide)]
    refine pp_rd ?_
    obtain ⟨k', z1, z2, z3, z4, z5, z6, z7, z8, z9, z10, z11⟩ := yv
    have ek : k' = k := by omega
    subst ek
    have nk : (mI v (169 * q + y) 4).toNatClampNeg = k' := n_of y4
    have r12 : (sI u 9 0).2.2.1 12 (160 * ((sI u 9 0).1 55) + l1).toNatClampNeg = mI v (169 * q + y) 6 := by
      show u.2.2.1 12 (160 * u.1 55 + l1).toNatClampNeg = _
      rw [y6]
      exact z5
    rw [r12]
    refine pp_sw (pq_ok (fun _ => ?_))
    rw [hq]
    refine pq_bc (pq_m (hn N) (fun r5 w5 h5 => pq_ok (fun _ => ?_)))
    rw [h5.1, h5.2]
    obtain ⟨g1, g2, g3⟩ := yq
    rw [nk] at g3
    refine pq_if (fun z => pq_some ?_) (fun z => ?_)
    · rw [if_pos z]
      refine pp_pu ?_
      unfold B_poke_39
      rw [if_neg (show ¬ (sI (sI u 9 0) 9 2).1 9 ≤ 0 by show ¬ (2 : Int32) ≤ 0; decide)]
      exact pp_some (Or.inr (Or.inl ⟨rfl, rfl⟩))
    · rw [if_neg z]
      unfold B_poke_39
      rw [if_pos (show (sI u 9 0).1 9 ≤ 0 by show (0 : Int32) ≤ 0; decide)]
      have i9 : 160 * ((sI u 9 0).1 55) + l1 = 160 * u.1 55 + l1 := rfl
      rw [i9]
      have rr : ∀ c : Nat, (sI u 9 0).2.2.1 c (160 * u.1 55 + l1).toNatClampNeg = u.2.2.1 c (160 * s + k') := fun c => by
        show u.2.2.1 c (160 * u.1 55 + l1).toNatClampNeg = _
        rw [y6]
      refine pq_sw (pp_rd (pp_rd ?_))
      rw [rr 15, rr 10, z3]
      unfold F_X2_change B_X2_change_0 F_X2_numberOf B_X2_numberOf_0 B_X2_numberOf_23
      rcases g3 with ⟨hw, a14, a15, a16, a17⟩ | ⟨hw, b1, b2, a14, a15, a16, a17⟩
      · -- in memory
        have np : ¬ (mI v (169 * q + y) 6 = 2 ∨ mI v (169 * q + y) 6 = 3) := fun r => by
          rcases hw with w0 | w0 <;> rcases r with r | r <;> (rw [w0] at r; exact absurd r (by decide))
        have n2 : ¬ (2 : Int32) ≤ mI v (169 * q + y) 6 := fun r => by
          have := Int32.le_iff_toInt_le.mp r
          rcases hw with w0 | w0 <;> (rw [w0] at this; exact absurd this (by decide))
        obtain ⟨c, hc⟩ : ∃ c : Nat, (mI v (169 * q + y) 9 + l2).toInt = (c : Int) ∧ c < 2000 := ⟨((mI v (169 * q + y) 9).toInt + l2.toInt).toNat, by rw [tI_add (by omega) (by omega)]; omega, by omega⟩
        have e6096 : (6096 : Int32).toInt = 6096 := by decide
        rw [a15]
        refine pp_bn (pp_m (show pp (F_write M (mI v (169 * q + y) 9 + l2) (mI v (169 * q + y) 5) l3 (sI u 9 0)) (fun _ z => z = sB (sI u 9 0) 82 c (r_cut (mI v (169 * q + y) 5) l3)) from ?_) (fun _ x5 h5 => ?_))
        · unfold F_write B_write_0
          rw [if_neg (fun q => by have := Int32.le_iff_toInt_le.mp q; omega)]
          refine pp_wr (pp_some ?_)
          rw [n_of hc.1]
        · rw [h5]
          refine pp_sw (pq_bc (ks_placed y2 (fun r => absurd r np) (fun _ => ?_)))
          rw [if_pos rfl]
          have put : pq (F_X2_put N (mI v (169 * q + y) 9 + l2) (n_cut (mI v (169 * q + y) 5) l3) v) (fun _ z => z = xB v 235 c (n_cut (mI v (169 * q + y) 5) l3)) := by
            unfold F_X2_put B_X2_put_0
            rw [if_neg (fun q => by have := Int32.lt_iff_toInt_lt.mp q; omega), if_neg (fun q => by have := Int32.le_iff_toInt_le.mp q; omega)]
            refine pq_wc (pq_some ?_)
            rw [n_of hc.1]
          refine pq_bc (pq_m put (fun _ w6 h6 => pq_some (pq_bc ?_)))
          rw [h6]
          refine ks_placed (v := xB v 235 c (n_cut (mI v (169 * q + y) 5) l3)) y2 (fun r => absurd r np) (fun _ => ?_)
          rw [if_pos rfl]
          have num : pq (F_X2_numberAt N (mI v (169 * q + y) 9 + l2) (xB v 235 c (n_cut (mI v (169 * q + y) 5) l3))) (fun r w => r = n_cut (mI v (169 * q + y) 5) l3) := by
            unfold F_X2_numberAt B_X2_numberAt_0
            rw [if_neg (fun q => by have := Int32.lt_iff_toInt_lt.mp q; omega), if_neg (fun q => by have := Int32.le_iff_toInt_le.mp q; omega)]
            refine pq_rd (pq_some ?_)
            rw [n_of hc.1]
            show (if c = c then n_cut (mI v (169 * q + y) 5) l3 else cB v 235 c) = _
            rw [if_pos rfl]
          refine pq_bc (pq_m num (fun r7 w7 h7 => pq_some (pq_some ?_)))
          rw [h7]
          refine pp_bn ?_
          unfold F_numberOf B_numberOf_0
          refine pp_rd ?_
          rw [show (sB (sI u 9 0) 82 c (r_cut (mI v (169 * q + y) 5) l3)).2.2.1 12 (160 * ((sB (sI u 9 0) 82 c (r_cut (mI v (169 * q + y) 5) l3)).1 55) + l1).toNatClampNeg = mI v (169 * q + y) 6 from r12, if_neg n2]
          refine pp_rd (pp_rd (pp_some (pp_some (Or.inr (Or.inr ⟨?_, rfl⟩)))))
          rw [show (sB (sI u 9 0) 82 c (r_cut (mI v (169 * q + y) 5) l3)).2.2.1 15 (160 * ((sB (sI u 9 0) 82 c (r_cut (mI v (169 * q + y) 5) l3)).1 55) + l1).toNatClampNeg = mI v (169 * q + y) 9 from (rr 15).trans a15, n_of hc.1]
          show Sum.inr (n_cut (mI v (169 * q + y) 5) l3) = Sum.inr (if c = c then r_cut (mI v (169 * q + y) 5) l3 else _)
          rw [if_pos rfl, q_cut]
      · -- in the image of outputs
        have h3 : mI v (169 * q + y) 6 = 3 := hw.resolve_left z
        have l20 : l2 = 0 := tI_eq.mpr (by rw [b1, show (1 : Int32).toInt = 1 from by decide] at y8; omega)
        have hn := nb_64 z9
        obtain ⟨c, hc⟩ : ∃ c : Nat, (mI v (169 * q + y) 9).toInt = (c : Int) ∧ c + nb (mI v (169 * q + y) 5) ≤ 64 := ⟨(mI v (169 * q + y) 9).toInt.toNat, by omega, by omega⟩
        rw [if_neg z] at a15
        have hcl : (5000 + mI v (169 * q + y) 9).toInt = ((5000 + c : Nat) : Int) := by rw [tI_add (by omega) (by omega)]; omega
        have hcl2 : (5000 + mI v (169 * q + y) 9 + l2).toInt = ((5000 + c : Nat) : Int) := by rw [l20, tI_add (by omega) (by omega)]; omega
        rw [a15]
        refine pp_bn (pp_m (i_write (u := sI u 9 0) hcl2 z9 hc.2) (fun _ x5 h5 => ?_))
        obtain ⟨⟨f1, f2, f3, f4⟩, f5⟩ := h5
        refine pp_sw (pq_bc (ks_placed y2 (fun _ => ?_) (fun r => absurd (Or.inr h3) r)))
        rw [if_neg (by decide)]
        refine pq_bc (pq_m (i_set (v := v) hc.1 z9 hc.2) (fun _ w6 h6 => pq_some (pq_bc ?_)))
        obtain ⟨⟨g1, g2, g3, g4⟩, g5⟩ := h6
        have mw : ∀ m j, mI w6 m j = mI v m j := fun m j => by
          show w6.2.2.2.2.2.2.2.2.1 m j = v.2.2.2.2.2.2.2.2.1 m j
          rw [g4]
        refine ks_placed (v := w6) (by rw [mw]; exact y2) (fun _ => ?_) (fun r => absurd (Or.inr (by rw [mw]; exact h3)) r)
        rw [if_neg (by decide)]
        refine ks_input (v := w6) (by rw [mw]; exact y2) (fun r => by rw [mw] at r; exact absurd r z) (fun _ => ?_)
        rw [if_pos rfl, mw, mw]
        refine pq_bc (pq_m (i_get (v := w6) hc.1 z9 hc.2) (fun r7 w7 h7 => pq_some (pq_some ?_)))
        have e214 : cA w6 (211 + (3 : Int32).toNatClampNeg) = sb l3 (cA v 214) c (nb (mI v (169 * q + y) 5)) := g5
        rw [h7.2, e214, jn_sb]
        refine pp_bn ?_
        have x12 : ∀ j : Nat, j ≠ 85 → x5.2.2.1 j (160 * (x5.1 55) + l1).toNatClampNeg = u.2.2.1 j (160 * s + k') := fun j hj => by
          rw [f3 j hj, f1]
          exact rr j
        unfold F_numberOf B_numberOf_0
        refine pp_rd ?_
        rw [x12 12 (by decide), z5, if_pos (by rw [h3]; decide)]
        refine pp_rd (pp_rd (pp_bn ?_))
        rw [x12 15 (by decide), x12 10 (by decide), z3, a15]
        unfold F_read B_read_0
        rw [if_pos (Int32.le_iff_toInt_le.mpr (by omega)), if_pos (Int32.lt_iff_toInt_lt.mpr (by omega))]
        have hcf : (64 + (5000 + mI v (169 * q + y) 9) - 5000).toInt = ((64 + c : Nat) : Int) := by
          have a1 : (64 + (5000 + mI v (169 * q + y) 9)).toInt = ((5064 + c : Nat) : Int) := by rw [tI_add (by omega) (by omega)]; omega
          rw [tI_sub (by omega) (by omega)]
          omega
        refine pp_m (i_read (u := x5) hcf z9 (by omega)) (fun r8 x8 h8 => pp_some (pp_some (Or.inr (Or.inr ⟨?_, ?_⟩))))
        · rw [h8.2, f5, show (sI u 9 0).2.2.1 85 = u.2.2.1 85 from rfl, jn_sb, q_cut]
        · rw [h8.1, f1]
          rfl
theorem poke_same {r : Int64} {y : Sum Nat Int64} (h : TBM v u q s T) (hq : cR v 0 = q) (h55 : (u.1 55).toInt = (s : Int)) (hs : s < 2) (h8 : F_poke M l1 l2 l3 u = some (r, x)) (h9 : F_X11_poke N l1 l2 l3 v = some (y, w)) : (y = .inl 3 ∧ x.1 9 = 1) ∨ (y = .inl 4 ∧ x.1 9 = 2) ∨ (y = .inr r ∧ x.1 9 = 0) := poke_T h hq h55 hs _ _ h9 _ _ h8
end Poke
