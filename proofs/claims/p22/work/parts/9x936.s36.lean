/-! The second pass: Stats that hold no Stats. -/
/-- the owner of what is read: the class's name, the reference's where and which -/
def OWj (v0 : CSt) (u0 : RSt) : Prop := ∃ r : Nat, (∀ N v i l e, CE v0 v i l e → pq (F_X6_name N (cR v0 2) (pI v0 (cR v0 2) 15) v) (fun x w => x = r ∧ w = v)) ∧ (mI v0 r 2 = 4 ↔ u0.1 70 = 3) ∧ (mI v0 r 2 = 4 → KD (mI v0 r 5) ∧ mI v0 r 5 = u0.2.2.1 33 (u0.1 71).toNatClampNeg)
/-- behind a Stat -/
def SJq (v0 : CSt) (u0 : RSt) (n j o l : Nat) : Int32 → CSt → Int32 → RSt → Prop := fun _ w _ x => ∃ e' c', CE v0 w j l e' ∧ RE u0 x j o l c' ∧ e'.1 = 0 ∧ j ≤ n
def HE2 (N : Nat) (v0 : CSt) (u0 : RSt) (n o l : Nat) (E : Rl) : Prop := ∀ i j v u e c, E i (.inr j) → i ≤ n → CE v0 v i l e → RE u0 u i o l c → e.1 = 0 → jx (G_X8_expression N v) (G_expression N u) (fun q w r x => EPq v0 u0 j o l e q w r x ∧ j ≤ n)
section St1
variable {v0 v : CSt} {u0 u : RSt} {i j o l n N m d d' t : Nat} {e : E5} {c : R5} {X E : Rl} {b : Prop} {p l1 l2 l3 l4 : Int32}
theorem sfe_0 {e' : E5} (h : sfe e e') (h0 : e.1 = 0) : e'.1 = 0 := h.1.trans h0
theorem e0_0 (h0 : e.1 = 0) : 0 ≤ e.1.toInt ∧ e.1.toInt ≤ 0 := by
  rw [h0]
  decide
theorem l_iff (h : CE v0 v i l e) (h' : RE u0 u j o l c) : cI v 13 = 0 ↔ u.1 74 = 0 := by
  have a1 := h.2.2.1
  have a2 := h'.2.2.2.2.1
  have z : (0 : Int32).toInt = 0 := by decide
  rw [tI_eq, tI_eq, z, a1, a2]
/-- break, continue -/
theorem j_leave (hV : EV2 v0 u0 n) (h : CE v0 v i l e) (h' : RE u0 u (i + 1) o l c) (hi : i < n) (hp : p = u0.2.2.1 3 i) (t1 : tyF v0 (i + 1) = 59) (h0 : e.1 = 0) : jx (F_X3_leave N p v) (F_leaves N l1 (u0.2.2.1 3 i) u) (SJq v0 u0 n (i + 2) o l) := by
  have hj := hV.2.2.2.2.1
  have hi1 : i + 1 < n := hV.lt (i := i + 1) hi (by rw [t1]; exact nEnd (by decide) (by decide) (by decide))
  subst hp
  unfold F_X3_leave B_X3_leave_0 F_leaves B_leaves_0
  by_cases z : u.1 74 = 0
  · rw [if_pos z, if_pos ((l_iff h h').mpr z)]
    refine jx_ref ?_
    unfold B_leaves_13
    exact y_bad hj h' (by decide) (by decide) (fun _ _ => by repeat' (first | exact KP_some kp_rf | with_reducible refine KP_bn ?_ (fun _ _ => ?_) | with_reducible refine KP_if ?_ ?_ | with_reducible refine KP_rd (fun _ => ?_) | with_reducible refine KP_zr ?_ | (with_reducible refine KP_pu2 ?_ ?_; first | exact ks_sI (by decide) kp_rf | exact ks_sL kp_rf | exact ks_sA (by decide) kp_rf | exact ks_sB (by decide) kp_rf) | (with_reducible refine KP_wr2 ?_ ?_; first | exact ks_sA (by decide) kp_rf | exact ks_sB (by decide) kp_rf) | with_reducible exact h_ro _ _ _ _ | with_reducible exact sk_F_is | with_reducible exact sk_F_take | with_reducible exact sk_F_emit | with_reducible exact sk_F_wrong | with_reducible exact sk_F_cost | with_reducible exact sk_F_stuck | with_reducible exact sk_F_ends | with_reducible exact sk_F_begins | with_reducible exact sk_F_opens | with_reducible exact sk_F_has | with_reducible exact sk_F_isNumber | with_reducible exact sk_F_isNext | with_reducible exact sk_F_push | with_reducible exact sk_F_lead | with_reducible exact sk_F_here | with_reducible exact sk_F_kind | with_reducible exact sk_F_isKind | with_reducible exact sk_F_own | with_reducible exact sk_F_constant | with_reducible exact sk_F_bounded | with_reducible exact sk_F_joined | with_reducible exact sk_F_strength | with_reducible exact sk_F_leadAll | with_reducible exact sk_F_loop | with_reducible exact sk_F_label | with_reducible exact sk_F_leaves | with_reducible exact sk_F_telling | with_reducible exact sk_F_local | with_reducible exact sk_F_addSlot | with_reducible exact sk_F_addVariable | with_reducible exact sk_F_isTooWide | with_reducible exact sk_F_named | with_reducible exact sk_F_slotOf | with_reducible exact sk_F_bad | with_reducible exact sk_G_expression | with_reducible exact sk_G_spot | with_reducible exact sk_G_body | with_reducible exact sk_G_stat | with_reducible exact sk_B_leaves_94 | with_reducible exact sk_B_leaves_63 | with_reducible exact sk_B_leaves_13 | with_reducible exact sk_B_leaves_0 | with_reducible exact sk_F_leaves))
  · rw [if_neg z, if_neg (fun q => z ((l_iff h h').mp q))]
    have ref : pp (B_leaves_13 N l1 (u0.2.2.1 3 i) 0 u) (fun _ x => RE u0 x (i + 2) o l c) := by
      have h94 : ∀ x, RE u0 x (i + 1) o l c → pp (B_leaves_94 N x) (fun _ x => RE u0 x (i + 2) o l c) := by
        intro x hx
        unfold B_leaves_94
        exact y_take hV.2.1 (t := 59) (by decide +kernel) hx hi1 t1 (fun w hw => pp_some hw)
      have h63 : ∀ a s2 : Int32, pp (B_leaves_63 N l1 a 28 s2 u) (fun _ x => RE u0 x (i + 2) o l c) := by
        intro a s2
        unfold B_leaves_63
        exact y_emit h' (fun _ w hw => pp_if (fun _ => pp_wr (h94 _ (hw.uA (by decide)))) (fun _ => pp_wr (h94 _ (hw.uA (by decide)))))
      unfold B_leaves_13
      refine y_ok rfl ?_
      rw [if_neg (by rw [h'.sc (by decide)]; exact hj), if_pos h'.2.1]
      exact pp_if (fun _ => pp_rd (h63 _ _)) (fun _ => pp_rd (h63 _ _))
    have fin : ∀ w, CE v0 w i l e → jx (B_X3_leave_69 N w) (B_leaves_13 N l1 (u0.2.2.1 3 i) 0 u) (SJq v0 u0 n (i + 2) o l) := by
      intro w hw
      unfold B_X3_leave_69
      exact k2_next hV.1 hw hi (fun w1 g1 => k2_next hV.1 g1 hi1 (fun w2 g2 => pq_some (pp_m ref (fun r x hx => Or.inr ⟨_, rfl, e, c, g2, hx, h0, hi1⟩))))
    unfold B_X3_leave_16
    refine k2_if h (fun _ => pq_ok (fun _ => k2_step h (fun _ w hw => pq_pc (fin _ (hw.x6 (Or.inl rfl)))))) (fun _ => pq_ok (fun _ => k2_step h (fun _ w hw => pq_pc (fin _ (hw.x6 (Or.inr rfl))))))
/-- return -/
theorem j_returned (hV : EV2 v0 u0 n) (hO : OWj v0 u0) (hE : HE2 N v0 u0 n o l E) (h : CE v0 v i l e) (h' : RE u0 u (i + 1) o l c) (hi : i < n) (hp : p = u0.2.2.1 3 i) (hD : dRet (tyF v0) E i (.inr j)) (h0 : e.1 = 0) : jx (F_X3_returned N p v) (F_returns N (u0.2.2.1 3 i) u) (SJq v0 u0 n j o l) := by
  have hj := hV.2.2.2.2.1
  subst hp
  obtain ⟨rm, o1, o2, o3⟩ := hO
  have hD2 := oF_r (show oF (fun i => tyF v0 i = 59) (oT (tyF v0) 59) (oS E (oT (tyF v0) 59)) (i + 1) (.inr j) from hD)
  have main : ∀ s0 : Int32, ((s0 = 0 ∧ tyF v0 (i + 1) = 59) ∨ (s0 = 1 ∧ ¬ tyF v0 (i + 1) = 59)) → jx (B_X3_returned_18 N (u0.2.2.1 3 i) s0 v) (B_returns_22 N (u0.2.2.1 3 i) s0 u) (SJq v0 u0 n j o l) := by
    intro s0 hs
    have e70 : u.1 70 = u0.1 70 := h'.sc (by decide)
    have kc : ∀ {Q : Sum Nat Int32 → CSt → Prop} {f : Nat → CSt → Option (Sum Nat Int32 × CSt)}, pq (f rm v) Q → pq (bc (F_X6_name N (cR v 2) (pI v (cR v 2) 15) v) f) Q := by
      intro Q f hf
      rw [h.rf, h.pi _ (by decide)]
      refine pq_bc (pq_m (o1 N v _ _ _ h) (fun q w2 hq => ?_))
      rw [hq.1, hq.2]
      exact hf
    have key : ∀ s1 : Int32, ((s1 = 1 ∧ mI v0 rm 2 = 4) ∨ (s1 = 0 ∧ ¬ mI v0 rm 2 = 4)) → jx (B_X3_returned_48 N (u0.2.2.1 3 i) s0 rm s0 s1 v) (B_returns_38 N (u0.2.2.1 3 i) s0 s0 s1 u) (SJq v0 u0 n j o l) := by
      intro s1 h1
      unfold B_X3_returned_48 B_returns_38
      by_cases z : s0 = s1
      · rw [if_pos z, if_pos z]
        unfold B_X3_returned_60 B_returns_46
        refine k2_next hV.1 h hi (fun w1 g1 => ?_)
        refine jx_r (y_ok rfl (jx_l ?_))
        rcases hs with ⟨z0, t1⟩ | ⟨z0, t1⟩
        · have hi1 : i + 1 < n := hV.lt (i := i + 1) hi (by rw [t1]; exact nEnd (by decide) (by decide) (by decide))
          rw [if_pos z0, if_pos z0]
          rcases hD2 with ⟨-, q⟩ | ⟨q, -⟩
          · obtain ⟨-, rfl⟩ := oT_r q
            unfold B_X3_returned_147 B_returns_136
            refine pq_ok (fun _ => k2_step g1 (fun _ w2 g2 => k2_next hV.1 g2 hi1 (fun w3 g3 => pq_some ?_)))
            exact y_emit h' (fun _ x1 r1 => y_take hV.2.1 (t := 59) (by decide +kernel) r1 hi1 t1 (fun x2 r2 => pp_some (Or.inr ⟨_, rfl, e, c, g3, r2, h0, hi1⟩)))
          · exact absurd t1 q
        · rw [if_neg (by rw [z0]; decide), if_neg (by rw [z0]; decide)]
          rcases hD2 with ⟨q, -⟩ | ⟨-, q⟩
          · exact absurd q t1
          · obtain ⟨k1, q1, q2⟩ := oS_r q
            obtain ⟨t2, rfl⟩ := oT_r q2
            have h4 : mI v0 rm 2 = 4 := by
              rcases h1 with ⟨-, y⟩ | ⟨y, -⟩
              · exact y
              · rw [z0, y] at z; exact absurd z (by decide)
            obtain ⟨kd2, ek⟩ := o3 h4
            refine k2_here g1 (jx_r (y_rA h' (by decide) (jx_l ?_)))
            refine jx_bt (hE (i + 1) k1 w1 u e c q1 hi g1 h' h0) ?_ (fun _ _ => by repeat' (first | exact KP_some kp_rf | with_reducible refine KP_bn ?_ (fun _ _ => ?_) | with_reducible refine KP_if ?_ ?_ | with_reducible refine KP_rd (fun _ => ?_) | with_reducible refine KP_zr ?_ | (with_reducible refine KP_pu2 ?_ ?_; first | exact ks_sI (by decide) kp_rf | exact ks_sL kp_rf | exact ks_sA (by decide) kp_rf | exact ks_sB (by decide) kp_rf) | (with_reducible refine KP_wr2 ?_ ?_; first | exact ks_sA (by decide) kp_rf | exact ks_sB (by decide) kp_rf) | with_reducible exact h_ro _ _ _ _ | with_reducible exact sk_F_is | with_reducible exact sk_F_take | with_reducible exact sk_F_emit | with_reducible exact sk_F_wrong | with_reducible exact sk_F_cost | with_reducible exact sk_F_stuck | with_reducible exact sk_F_ends | with_reducible exact sk_F_begins | with_reducible exact sk_F_opens | with_reducible exact sk_F_has | with_reducible exact sk_F_isNumber | with_reducible exact sk_F_isNext | with_reducible exact sk_F_push | with_reducible exact sk_F_lead | with_reducible exact sk_F_here | with_reducible exact sk_F_kind | with_reducible exact sk_F_isKind | with_reducible exact sk_F_own | with_reducible exact sk_F_constant | with_reducible exact sk_F_bounded | with_reducible exact sk_F_joined | with_reducible exact sk_F_strength | with_reducible exact sk_F_leadAll | with_reducible exact sk_F_loop | with_reducible exact sk_F_label | with_reducible exact sk_F_leaves | with_reducible exact sk_F_telling | with_reducible exact sk_F_local | with_reducible exact sk_F_addSlot | with_reducible exact sk_F_addVariable | with_reducible exact sk_F_isTooWide | with_reducible exact sk_F_named | with_reducible exact sk_F_slotOf | with_reducible exact sk_F_bad | with_reducible exact sk_G_expression | with_reducible exact sk_G_spot | with_reducible exact sk_G_body | with_reducible exact sk_G_stat | with_reducible exact sk_B_returns_136 | with_reducible exact sk_B_returns_124 | with_reducible exact sk_B_returns_46 | with_reducible exact sk_B_returns_38 | with_reducible exact sk_B_returns_22 | with_reducible exact sk_B_returns_21 | with_reducible exact sk_B_returns_0 | with_reducible exact sk_F_returns))
            rintro b2 w2 q2 x2 ⟨⟨rfl, kd, e2, c2, g2, r2, s2, n2⟩, hk⟩
            have hkl : k1 < n := hV.lt hk (by rw [t2]; exact nEnd (by decide) (by decide) (by decide))
            obtain ⟨rr, hb01, tC, tR⟩ := tw_same (N := N) kd kd2 g2 r2 n2
            refine jx_r ?_
            rw [if_neg (by rw [r2.sc (by decide)]; exact hj), if_pos r2.2.1]
            refine pp_rd ?_
            rw [r2.row (by decide), r2.sc (k := 71) (by decide), ← ek]
            refine tR ?_
            rcases hb01 with hr | hr
            · subst hr
              refine y_ok rfl (pp_rd (y_emit r2 (fun _ x3 r3 => ?_)))
              unfold B_returns_124 B_returns_136
              refine y_take hV.2.1 (t := 59) (by decide +kernel) r3 hkl t2 (fun x4 r4 => pp_some ?_)
              rw [g2.nm]
              refine tC ?_
              rw [if_pos rfl]
              unfold B_X3_returned_115 B_X3_returned_147
              exact pq_ok (fun _ => k2_step g2 (fun _ w3 g3 => k2_next hV.1 g3 hkl (fun w4 g4 => pq_some (Or.inr ⟨_, rfl, e2, c2, g4, r4, sfe_0 s2 h0, hkl⟩))))
            · subst hr
              refine jx_l ?_
              rw [g2.nm]
              refine tC ?_
              rw [if_neg (by decide), hV.pl (i := i + 1) hi]
              exact jx_ref (y_bad hj r2 (by decide) (by decide) (fun _ _ => by repeat' (first | exact KP_some kp_rf | with_reducible refine KP_bn ?_ (fun _ _ => ?_) | with_reducible refine KP_if ?_ ?_ | with_reducible refine KP_rd (fun _ => ?_) | with_reducible refine KP_zr ?_ | (with_reducible refine KP_pu2 ?_ ?_; first | exact ks_sI (by decide) kp_rf | exact ks_sL kp_rf | exact ks_sA (by decide) kp_rf | exact ks_sB (by decide) kp_rf) | (with_reducible refine KP_wr2 ?_ ?_; first | exact ks_sA (by decide) kp_rf | exact ks_sB (by decide) kp_rf) | with_reducible exact h_ro _ _ _ _ | with_reducible exact sk_F_is | with_reducible exact sk_F_take | with_reducible exact sk_F_emit | with_reducible exact sk_F_wrong | with_reducible exact sk_F_cost | with_reducible exact sk_F_stuck | with_reducible exact sk_F_ends | with_reducible exact sk_F_begins | with_reducible exact sk_F_opens | with_reducible exact sk_F_has | with_reducible exact sk_F_isNumber | with_reducible exact sk_F_isNext | with_reducible exact sk_F_push | with_reducible exact sk_F_lead | with_reducible exact sk_F_here | with_reducible exact sk_F_kind | with_reducible exact sk_F_isKind | with_reducible exact sk_F_own | with_reducible exact sk_F_constant | with_reducible exact sk_F_bounded | with_reducible exact sk_F_joined | with_reducible exact sk_F_strength | with_reducible exact sk_F_leadAll | with_reducible exact sk_F_loop | with_reducible exact sk_F_label | with_reducible exact sk_F_leaves | with_reducible exact sk_F_telling | with_reducible exact sk_F_local | with_reducible exact sk_F_addSlot | with_reducible exact sk_F_addVariable | with_reducible exact sk_F_isTooWide | with_reducible exact sk_F_named | with_reducible exact sk_F_slotOf | with_reducible exact sk_F_bad | with_reducible exact sk_G_expression | with_reducible exact sk_G_spot | with_reducible exact sk_G_body | with_reducible exact sk_G_stat | with_reducible exact sk_B_returns_136 | with_reducible exact sk_B_returns_124 | with_reducible exact sk_B_returns_46 | with_reducible exact sk_B_returns_38 | with_reducible exact sk_B_returns_22 | with_reducible exact sk_B_returns_21 | with_reducible exact sk_B_returns_0 | with_reducible exact sk_F_returns)))
      · rw [if_neg z, if_neg z]
        refine jx_ref ?_
        unfold B_returns_46
        exact y_bad hj h' (by decide) (by decide) (fun _ _ => by repeat' (first | exact KP_some kp_rf | with_reducible refine KP_bn ?_ (fun _ _ => ?_) | with_reducible refine KP_if ?_ ?_ | with_reducible refine KP_rd (fun _ => ?_) | with_reducible refine KP_zr ?_ | (with_reducible refine KP_pu2 ?_ ?_; first | exact ks_sI (by decide) kp_rf | exact ks_sL kp_rf | exact ks_sA (by decide) kp_rf | exact ks_sB (by decide) kp_rf) | (with_reducible refine KP_wr2 ?_ ?_; first | exact ks_sA (by decide) kp_rf | exact ks_sB (by decide) kp_rf) | with_reducible exact h_ro _ _ _ _ | with_reducible exact sk_F_is | with_reducible exact sk_F_take | with_reducible exact sk_F_emit | with_reducible exact sk_F_wrong | with_reducible exact sk_F_cost | with_reducible exact sk_F_stuck | with_reducible exact sk_F_ends | with_reducible exact sk_F_begins | with_reducible exact sk_F_opens | with_reducible exact sk_F_has | with_reducible exact sk_F_isNumber | with_reducible exact sk_F_isNext | with_reducible exact sk_F_push | with_reducible exact sk_F_lead | with_reducible exact sk_F_here | with_reducible exact sk_F_kind | with_reducible exact sk_F_isKind | with_reducible exact sk_F_own | with_reducible exact sk_F_constant | with_reducible exact sk_F_bounded | with_reducible exact sk_F_joined | with_reducible exact sk_F_strength | with_reducible exact sk_F_leadAll | with_reducible exact sk_F_loop | with_reducible exact sk_F_label | with_reducible exact sk_F_leaves | with_reducible exact sk_F_telling | with_reducible exact sk_F_local | with_reducible exact sk_F_addSlot | with_reducible exact sk_F_addVariable | with_reducible exact sk_F_isTooWide | with_reducible exact sk_F_named | with_reducible exact sk_F_slotOf | with_reducible exact sk_F_bad | with_reducible exact sk_G_expression | with_reducible exact sk_G_spot | with_reducible exact sk_G_body | with_reducible exact sk_G_stat | with_reducible exact sk_B_returns_136 | with_reducible exact sk_B_returns_124 | with_reducible exact sk_B_returns_46 | with_reducible exact sk_B_returns_38 | with_reducible exact sk_B_returns_22 | with_reducible exact sk_B_returns_21 | with_reducible exact sk_B_returns_0 | with_reducible exact sk_F_returns))
    unfold B_X3_returned_18 B_returns_22
    refine pq_ok (fun _ => kc (pq_ok (fun _ => ?_)))
    rw [h.nm, e70]
    by_cases y : mI v0 rm 2 = 4
    · rw [if_pos y, if_pos (o2.mp y)]
      exact key 1 (Or.inl ⟨rfl, y⟩)
    · rw [if_neg y, if_neg (fun q => y (o2.mpr q))]
      exact key 0 (Or.inr ⟨rfl, y⟩)
  unfold F_X3_returned B_X3_returned_0 F_returns B_returns_0
  refine k2_ahead (m := 1) hV.1 h (by decide) (by omega) ?_
  refine jx_r ?_
  rw [if_pos h'.2.1]
  by_cases z : tyF v0 (i + 1) = 59
  · rw [if_pos z]
    refine y_if hV.2.1 (t := 59) (by decide +kernel) h' hi (fun _ => ?_) (fun q => absurd z q)
    unfold B_returns_21
    exact jx_l (main 0 (Or.inl ⟨rfl, z⟩))
  · rw [if_neg z]
    exact y_if hV.2.1 (t := 59) (by decide +kernel) h' hi (fun q => absurd q z) (fun _ => jx_l (main 1 (Or.inr ⟨rfl, z⟩)))
/-! constants, labels -/
theorem tok_num (hV : EV2 v0 u0 n) (hi : i < n) (ht : tyF v0 i = 129 ∨ tyF v0 i = 130) : (u0.2.2.1 2 i = 3 ↔ ¬ cA v0 206 i &&& 2 = 0) ∧ (cA v0 206 i &&& 1 = 0 ↔ u0.2.2.1 5 i = 0) ∧ (cA v0 206 i &&& 2 = 0 → cB v0 205 i = u0.2.2.2 4 i) := by
  obtain ⟨hp, hk⟩ := hV.2.2.1 i hi
  obtain ⟨hs, hn, hc, -⟩ := hk
  refine ⟨?_, ?_, ?_⟩
  · rcases ht with z | z
    · have e23 : u0.2.2.1 2 i = 2 ∨ u0.2.2.1 2 i = 3 := ((show ∀ p ∈ prs, (p.1 = 129 → p.2 = 2 ∨ p.2 = 3) by decide +kernel) (tyF v0 i, u0.2.2.1 2 i) hs) z
      obtain ⟨a1, a2, a3⟩ := hn z
      constructor
      · intro q r
        have := a1.mp r
        rw [q] at this
        exact absurd this (by decide)
      · intro q
        rcases e23 with r | r
        · exact absurd (a1.mpr r) q
        · exact r
    · obtain ⟨a1, a2, a3, -⟩ := hc z
      have e4 : u0.2.2.1 2 i = 4 := ((show ∀ p ∈ prs, (p.1 = 130 → p.2 = 4) by decide +kernel) (tyF v0 i, u0.2.2.1 2 i) hs) z
      constructor
      · intro q
        rw [e4] at q
        exact absurd q (by decide)
      · intro q
        rw [a2] at q
        exact absurd (by decide) q
  · rcases ht with z | z
    · exact (hn z).2.1
    · obtain ⟨a1, a2, a3, -⟩ := hc z
      rw [a2, a3]
      decide
  · intro q
    rcases ht with z | z
    · exact ((hn z).2.2 ((hn z).1.mp q)).1
    · exact (hc z).1
/-- the number of a constant whose sign stands at i, its figures at t -/
def cvR (v0 : CSt) (u0 : RSt) (i t : Nat) : Int64 := if tyF v0 i = 45 then r_worked (u0.2.2.1 5 t) (-(u0.2.2.2 4 t)) else u0.2.2.2 4 t
theorem y_constant {Q : Int32 → RSt → Prop} (hV : EV2 v0 u0 n) (hD : dC (tyF v0) i (.inr j)) (h' : RE u0 u i o l c) (hi : i ≤ n)
    (hb : ∀ t, j = t + 1 → t < n → u0.2.2.1 2 t = 3 → ∀ r x, ¬ x.1 67 = 0 → x.1 68 = u0.2.2.1 3 t → Q r x)
    (kk : ∀ t, j = t + 1 → t < n → (tyF v0 t = 129 ∨ tyF v0 t = 130) → ¬ u0.2.2.1 2 t = 3 → ∀ z, RE u0 z j o l (c.1, c.2.1, c.2.2.1, c.2.2.2.1, cvR v0 u0 i t) → Q 0 z) : pp (F_constant N u) Q := by
  have hn2 := hV.2.1.2.2
  have hj := hV.2.2.2.2.1
  have one : ∀ (g : Int32) (t : Nat) (x : RSt), (g = 0 ∧ ¬ tyF v0 i = 45 ∨ g = 1 ∧ tyF v0 i = 45) → dC1 (tyF v0) t (.inr j) → t ≤ n → RE u0 x t o l c → pp (bn (F_isNumber N x) fun r_20 u_19 => if r_20 = (0 : Int32) then (bn (F_is N 4 u_19) fun r_23 u_22 => if r_23 = (0 : Int32) then (bn (F_stuck N u_22) fun _ u_25 => some (0, u_25)) else (B_constant_28 N g u_22)) else (B_constant_28 N g u_19)) Q := by
    intro g t x hg hD hi hx
    rcases oF_r hD with ⟨ht, q⟩ | ⟨-, q⟩
    · have ej : j = t + 1 := oE_r q
      have hil : t < n := hV.lt hi (by rcases ht with z | z <;> (rw [z]; exact nEnd (by decide) (by decide) (by decide)))
      have r28 : pp (B_constant_28 N g x) Q := by
        unfold B_constant_28
        refine y_is0 hx (fun z => y_rA hx (by decide) ?_) (fun z => y_rA hx (by decide) (y_ok rfl ?_))
        · exact pp_m (y_bad hj hx (by decide) (by decide) (fun _ _ => by repeat' (first | exact KP_some kp_rf | with_reducible refine KP_bn ?_ (fun _ _ => ?_) | with_reducible refine KP_if ?_ ?_ | with_reducible refine KP_rd (fun _ => ?_) | with_reducible refine KP_zr ?_ | (with_reducible refine KP_pu2 ?_ ?_; first | exact ks_sI (by decide) kp_rf | exact ks_sL kp_rf | exact ks_sA (by decide) kp_rf | exact ks_sB (by decide) kp_rf) | (with_reducible refine KP_wr2 ?_ ?_; first | exact ks_sA (by decide) kp_rf | exact ks_sB (by decide) kp_rf) | with_reducible exact h_ro _ _ _ _ | with_reducible exact sk_F_is | with_reducible exact sk_F_take | with_reducible exact sk_F_emit | with_reducible exact sk_F_wrong | with_reducible exact sk_F_cost | with_reducible exact sk_F_stuck | with_reducible exact sk_F_ends | with_reducible exact sk_F_begins | with_reducible exact sk_F_opens | with_reducible exact sk_F_has | with_reducible exact sk_F_isNumber | with_reducible exact sk_F_isNext | with_reducible exact sk_F_push | with_reducible exact sk_F_lead | with_reducible exact sk_F_here | with_reducible exact sk_F_kind | with_reducible exact sk_F_isKind | with_reducible exact sk_F_own | with_reducible exact sk_F_constant | with_reducible exact sk_F_bounded | with_reducible exact sk_F_joined | with_reducible exact sk_F_strength | with_reducible exact sk_F_leadAll | with_reducible exact sk_F_loop | with_reducible exact sk_F_label | with_reducible exact sk_F_leaves | with_reducible exact sk_F_telling | with_reducible exact sk_F_local | with_reducible exact sk_F_addSlot | with_reducible exact sk_F_addVariable | with_reducible exact sk_F_isTooWide | with_reducible exact sk_F_named | with_reducible exact sk_F_slotOf | with_reducible exact sk_F_bad | with_reducible exact sk_G_expression | with_reducible exact sk_G_spot | with_reducible exact sk_G_body | with_reducible exact sk_G_stat | with_reducible exact sk_B_constant_86 | with_reducible exact sk_B_constant_28 | with_reducible exact sk_B_constant_0 | with_reducible exact sk_F_constant))) (fun r y q => hb t ej hil z r y q.1 q.2)
        · have k86 : ∀ a, a = cvR v0 u0 i t → pp (B_constant_86 N a x) Q := by
            intro a ha
            unfold B_constant_86
            refine pp_pu (y_adv (hx.x77 (a := a)) (by omega) (fun w hw => pp_some (kk t ej hil ht z w ?_)))
            rw [← ha, ej]
            exact hw
          unfold cvR at k86
          refine pp_if (fun y => ?_) (fun y => ?_)
          · refine y_rB hx (by decide) (k86 _ ?_)
            rcases hg with ⟨-, q2⟩ | ⟨q1, -⟩
            · rw [if_neg q2]
            · rw [q1] at y; exact absurd y (by decide)
          · refine y_rA hx (by decide) (y_rB hx (by decide) (k86 _ ?_))
            rcases hg with ⟨q1, -⟩ | ⟨-, q2⟩
            · exact absurd q1 y
            · rw [if_pos q2]
      refine y_isNumber hV.2.1 hx hi (fun _ => ?_) (fun z => ?_)
      · rw [if_neg (by decide)]
        exact r28
      · rw [if_pos rfl]
        refine y_is hV.2.1 (t := 130) (by decide +kernel) hx hi (fun _ => ?_) (fun y => absurd ht (fun q => q.elim z y))
        rw [if_neg (by decide)]
        exact r28
    · exact (oR_r q).elim
  unfold F_constant B_constant_0
  rcases oF_r hD with ⟨z, q⟩ | ⟨z, q⟩
  · have hil : i < n := hV.lt hi (by rw [z]; exact nEnd (by decide) (by decide) (by decide))
    exact y_has hV.2.1 (t := 45) (by decide +kernel) (nEnd (by decide) (by decide) (by decide)) h' hi (fun _ _ x1 r1 => one 1 (i + 1) x1 (Or.inr ⟨rfl, z⟩) q hil r1) (fun y => absurd z y)
  · exact y_has hV.2.1 (t := 45) (by decide +kernel) (nEnd (by decide) (by decide) (by decide)) h' hi (fun y => absurd y z) (fun _ => one 0 i u (Or.inl ⟨rfl, z⟩) q hi h')
theorem bt_bc {α β γ : Type} (x : Option (α × CSt)) (f : α → CSt → Option (Sum Nat β × CSt)) (k : β → CSt → Option (Sum Nat γ × CSt)) : bt (bc x f) k = bc x (fun r w => bt (f r w) k) := by
  cases x <;> rfl
theorem bt_as {α β γ : Type} (x : Option (Sum Nat α × CSt)) (f : α → CSt → Option (Sum Nat β × CSt)) (k : β → CSt → Option (Sum Nat γ × CSt)) : bt (bt x f) k = bt x (fun r w => bt (f r w) k) := by
  rcases x with _ | ⟨y | y, w⟩ <;> rfl
theorem bt_okj {β γ : Type} {P : Prop} {d : Decidable P} (x : Option (Sum Nat β × CSt)) (k : β → CSt → Option (Sum Nat γ × CSt)) : bt (ok P d x) k = ok P d (bt x k) := by
  unfold ok
  by_cases q : P
  · rw [if_pos q, if_pos q]
  · rw [if_neg q, if_neg q]
    rfl
theorem bt_pb {α β γ : Type} (x : Option α) (f : α → Option (Sum Nat β × CSt)) (k : β → CSt → Option (Sum Nat γ × CSt)) : bt (pb x f) k = pb x (fun r => bt (f r) k) := by
  cases x <;> rfl
theorem bt_inr {β γ : Type} (b : β) (w : CSt) (k : β → CSt → Option (Sum Nat γ × CSt)) : bt (some (.inr b, w)) k = k b w := rfl
theorem bt_if {β γ : Type} {P : Prop} [Decidable P] (x y : Option (Sum Nat β × CSt)) (k : β → CSt → Option (Sum Nat γ × CSt)) : bt (if P then x else y) k = if P then bt x k else bt y k := by
  by_cases q : P
  · rw [if_pos q, if_pos q]
  · rw [if_neg q, if_neg q]
theorem bn_rd {α β γ : Type} (f : Nat → α) (n : Nat) (i : Int32) (g : α → Option (β × RSt)) (k : β → RSt → Option (γ × RSt)) : bn (rd f n i g) k = rd f n i (fun v => bn (g v) k) := by
  unfold rd
  by_cases q : i < 0 ∨ n ≤ i.toNatClampNeg
  · rw [if_pos q, if_pos q]
    rfl
  · rw [if_neg q, if_neg q]
theorem bn_pu {β γ : Type} (x : RSt) (f : RSt → Option (β × RSt)) (k : β → RSt → Option (γ × RSt)) : bn (pu x f) k = pu x (fun w => bn (f w) k) := rfl
theorem pp_to {α β : Type} {Y : Option (α × RSt)} {k' : α → RSt → Option (β × RSt)} {p : Int32} (hs : ∀ r x, KP (k' r x) x) (h : pp Y (fun _ x => ¬ x.1 67 = 0 ∧ x.1 68 = p)) : pp (bn Y k') (fun _ x => ¬ x.1 67 = 0 ∧ x.1 68 = p) := pp_bn (pp_m h (fun r x q => pp_flt (hs r x) q.1 q.2))
/-- a constant: both read the same number; what the class does with it follows -/
theorem j_const {β γ : Type} {A : β → CSt → γ → RSt → Prop} {k : Int64 → CSt → Option (Sum Nat β × CSt)} {k' : Int32 → RSt → Option (γ × RSt)} {kd : Int32} (hV : EV2 v0 u0 n) (hD : dC (tyF v0) i (.inr j)) (h : CE v0 v i l e) (h' : RE u0 u i o l c) (hi : i ≤ n)
    (kk : ∀ w z t, j = t + 1 → t < n → CE v0 w j l e → RE u0 z j o l (c.1, c.2.1, c.2.2.1, c.2.2.2.1, cvR v0 u0 i t) → jx (bt (B_X3_constant_60 N kd (cA v0 204 t) (cvR v0 u0 i t) w) k) (k' 0 z) A) (hs : ∀ r z, KP (k' r z) z) : jx (bt (F_X3_constant N kd v) k) (bn (F_constant N u) k') A := by
  have one : ∀ (g : Int32) (t : Nat) (v : CSt), (g = 0 ∧ ¬ tyF v0 i = 45 ∨ g = 1 ∧ tyF v0 i = 45) → dC1 (tyF v0) t (.inr j) → t ≤ n → CE v0 v t l e → jx (bt (B_X3_constant_21 N kd g v) k) (bn (F_constant N u) k') A := by
    intro g t v hg hD1 hit h
    rcases oF_r hD1 with ⟨ht, q⟩ | ⟨-, q⟩
    · have ej : j = t + 1 := oE_r q
      have hil : t < n := hV.lt hit (by rcases ht with z | z <;> (rw [z]; exact nEnd (by decide) (by decide) (by decide)))
      obtain ⟨t3, tw, tv⟩ := tok_num hV hil ht
      unfold B_X3_constant_21
      rw [bt_bc]
      refine k2_here h ?_
      rw [bt_bc]
      refine k2_wide h ?_
      rw [bt_as]
      have to : ∀ t', j = t' + 1 → t' = t := fun t' q => by omega
      refine j_takeNumber hV h hil (fun z w hw => ?_) (fun z => ?_)
      · refine jx_r (pp_bn (y_constant hV hD h' hi (fun t' q1 _ q2 => ?_) (fun t' q1 q2 q3 q4 x hx => jx_l ?_)))
        · rw [to t' q1] at q2
          exact absurd z (t3.mp q2)
        · have et := to t' q1
          subst et
          have hw' : CE v0 w j l e := by rw [ej]; exact hw
          have := kk w x t' q1 q2 hw' hx
          unfold cvR at this
          rcases hg with ⟨g1, g2⟩ | ⟨g1, g2⟩
          · rw [if_pos g1]
            rw [if_neg g2, ← tv z] at this
            exact this
          · rw [if_neg (by rw [g1]; decide)]
            rw [if_pos g2, neg_same, ← tv z] at this
            have ew : n_neg (if cA v0 206 t' &&& 1 = 0 then 0 else 1) (cB v0 205 t') = n_neg (u0.2.2.1 5 t') (cB v0 205 t') := by
              unfold n_neg
              by_cases y : cA v0 206 t' &&& 1 = 0
              · rw [if_pos y, if_pos rfl, if_pos (tw.mp y)]
              · rw [if_neg y, if_neg (by decide), if_neg (fun r => y (tw.mpr r))]
            rw [ew]
            exact this
      · refine pp_to hs ?_
        refine y_constant hV hD h' hi (fun t' q1 q2 q3 r x a1 a2 => ⟨a1, ?_⟩) (fun t' q1 q2 q3 q4 x hx => ?_)
        · rw [a2, to t' q1, hV.pl hit]
        · rw [to t' q1] at q4
          exact absurd (t3.mpr z) q4
    · exact (oR_r q).elim
  unfold F_X3_constant B_X3_constant_0
  rw [bt_bc]
  rcases oF_r hD with ⟨z, q⟩ | ⟨z, q⟩
  · have hil : i < n := hV.lt hi (by rw [z]; exact nEnd (by decide) (by decide) (by decide))
    refine k2_is h (fun _ => ?_) (fun y => absurd z y)
    rw [if_neg (by decide), bt_bc]
    exact k2_next hV.1 h hil (fun w1 g1 => one 1 (i + 1) w1 (Or.inr ⟨rfl, z⟩) q hil g1)
  · refine k2_is h (fun y => absurd y z) (fun _ => ?_)
    rw [if_pos rfl]
    exact one 0 i v (Or.inl ⟨rfl, z⟩) q hi h
end St1
