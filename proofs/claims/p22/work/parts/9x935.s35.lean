/-! The second pass: operand, E, by levels. -/
section Ex
variable {v0 v : CSt} {u0 u : RSt} {i j o l n N m d d' t : Nat} {e : E5} {c : R5} {X O : Rl} {b : Prop} {p : Int32}
theorem j_opd (hV : EV2 v0 u0 n) (ho : b → o < 24) (hX : HX2 N v0 u0 n o l X) (hO : HO2 N v0 u0 n o l O) (hPg : Pg X) (hD : dOpd (tyF v0) b X O i (.inr j)) (hi : i ≤ n) (h : CE v0 v i l e) (h' : RE u0 u i o l c) (h0 : 0 ≤ e.1.toInt) (h1 : e.1.toInt ≤ 10 * o + 10) : jx (FTE_ N d 2 0 0 0 v) (FE_ N d' 2 0 0 u) (fun q w r x => EOq v0 u0 i j o l e q w r x ∧ j ≤ n) := by
  have hn2 := hV.2.1.2.2
  have s241 : u0.2.2.1 2 i = 241 ↔ tyF v0 i = 45 := hV.2.1.so hi (by decide +kernel)
  have s245 : u0.2.2.1 2 i = 245 ↔ tyF v0 i = 126 := hV.2.1.so hi (by decide +kernel)
  have s246 : u0.2.2.1 2 i = 246 ↔ tyF v0 i = 33 := hV.2.1.so hi (by decide +kernel)
  have s223 : u0.2.2.1 2 i = 223 ↔ tyF v0 i = 40 := hV.2.1.so hi (by decide +kernel)
  have s128 : u0.2.2.1 2 i = 128 ↔ tyF v0 i = 29 := hV.2.1.so hi (by decide +kernel)
  have s1 : u0.2.2.1 2 i = 1 ↔ tyF v0 i = 128 := hV.2.1.so hi (by decide +kernel)
  have s4 : u0.2.2.1 2 i = 4 ↔ tyF v0 i = 130 := hV.2.1.so hi (by decide +kernel)
  have s23 : (u0.2.2.1 2 i = 2 ∨ u0.2.2.1 2 i = 3) ↔ tyF v0 i = 129 := (show ∀ p ∈ prs, ((p.2 = 2 ∨ p.2 = 3) ↔ p.1 = 129) by decide +kernel) (tyF v0 i, u0.2.2.1 2 i) (hV.2.1.1 i hi)
  cases d with
  | zero => exact jx_n1 rfl
  | succ d =>
    cases d' with
    | zero => exact jx_n2 rfl
    | succ d' =>
      have id' : ∀ {A : Int32 → CSt → Int32 → RSt → Prop} {X : Option (Sum Nat Int32 × CSt)} {Y : Option (Int32 × RSt)}, jx X Y A → jx (bt X fun r_13 u_12 => some (.inr r_13, u_12)) Y A := fun hx => jx_btl hx (fun _ _ _ _ q => q)
      show jx (F_X8_operand N (FTE_ N d) v) (F_operand N (FE_ N d') u) _
      unfold F_X8_operand B_X8_operand_0 F_operand B_operand_0
      refine k2_here h (k2_type h (jx_r ?_))
      rw [if_pos h'.2.1]
      refine y_rA h' (by decide) (jx_l ?_)
      rcases oF_r hD with ⟨z, q⟩ | ⟨z, q⟩
      · have sg := id' (j_signed (d := d) (d' := d') hV ho hO q h h' hi z h0 h1)
        unfold B_operand_40
        rw [bn_id]
        rcases z with y | y | y
        · rw [if_neg (by rw [y]; decide), if_neg (by rw [y]; decide), if_neg (by rw [y]; decide), if_pos y, if_pos (s241.mpr y)]
          exact sg
        · rw [if_neg (by rw [y]; decide), if_neg (by rw [y]; decide), if_neg (by rw [y]; decide), if_neg (by rw [y]; decide), if_pos y, if_neg (fun x => by rw [s241.mp x] at y; exact absurd y (by decide)), if_pos (s245.mpr y)]
          exact sg
        · rw [if_neg (by rw [y]; decide), if_pos y, if_neg (fun x => by rw [s241.mp x] at y; exact absurd y (by decide)), if_neg (fun x => by rw [s245.mp x] at y; exact absurd y (by decide)), if_pos (s246.mpr y)]
          exact sg
      · have n45 : ¬ tyF v0 i = 45 := fun x => z (Or.inl x)
        have n126 : ¬ tyF v0 i = 126 := fun x => z (Or.inr (Or.inl x))
        have n33 : ¬ tyF v0 i = 33 := fun x => z (Or.inr (Or.inr x))
        rw [if_neg (fun x => n45 (s241.mp x)), if_neg (fun x => n126 (s245.mp x)), if_neg (fun x => n33 (s246.mp x))]
        rcases oF_r q with ⟨z2, q2⟩ | ⟨z2, q2⟩
        · obtain ⟨k1, p1, p2⟩ := oS_r q2
          obtain ⟨t1, pb, rfl⟩ := oP_r p1
          have hil : i < n := hV.lt hi (by rw [t1]; exact nEnd (by decide) (by decide) (by decide))
          rw [if_neg (by rw [t1]; decide), if_neg n33, if_pos t1, if_pos (s223.mpr t1)]
          refine jx_r (y_isKind hV.2.1 h' hil (fun hk => ?_) (fun hk => ?_))
          · rw [if_neg (by decide), bn_id]
            refine jx_l (id' ?_)
            rcases oF_r p2 with ⟨-, q3⟩ | ⟨q3, -⟩
            · exact j_cast hV ho hO pb t1 hk q3 h h' hi h0 h1
            · exact absurd hk q3
          · rw [if_pos rfl]
            unfold B_operand_71
            rw [if_pos (s223.mpr t1)]
            refine jx_l (id' ?_)
            rcases oF_r p2 with ⟨q3, -⟩ | ⟨-, q3⟩
            · exact absurd q3 hk
            · exact j_paren hV ho hX pb t1 hk q3 h h' hi h0 h1
        · have n40 : ¬ tyF v0 i = 40 := z2
          rw [if_neg (show ¬ u0.2.2.1 2 i = 223 from fun x => n40 (s223.mp x))]
          unfold B_operand_71
          rw [if_neg (show ¬ u0.2.2.1 2 i = 223 from fun x => n40 (s223.mp x))]
          rcases oF_r q2 with ⟨z3, q3⟩ | ⟨z3, q3⟩
          · have hil : i < n := hV.lt hi (by rw [z3]; exact nEnd (by decide) (by decide) (by decide))
            have m23 : ¬ tyF v0 i = 129 := by rw [z3]; decide
            rw [if_neg (show ¬ tyF v0 i = 29 by rw [z3]; decide), if_neg n33, if_neg n40, if_neg n45, if_neg n126, if_neg m23, if_neg (show ¬ tyF v0 i = 130 by rw [z3]; decide)]
            refine jx_r ?_
            rw [if_neg (fun x => m23 (s23.mp (Or.inl x))), if_neg (fun x => m23 (s23.mp (Or.inr x))), if_neg (fun x => by rw [s4.mp x] at z3; exact absurd z3 (by decide))]
            refine pp_pu ?_
            rw [if_neg (fun x => by rw [s128.mp x] at z3; exact absurd z3 (by decide)), if_pos (s1.mpr z3)]
            exact jx_l (id' (j_named hV ho hX hPg q3 h (h'.x78) hil z3 h0 h1))
          · rcases oF_r q3 with ⟨z4, q4⟩ | ⟨z4, q4⟩
            · have hj : j = i + 1 := oE_r q4
              subst hj
              have hil : i < n := hV.lt hi (by rcases z4 with x | x | x <;> (rw [x]; exact nEnd (by decide) (by decide) (by decide)))
              rcases z4 with y | y | y
              · rw [if_pos y]
                have m23 : ¬ tyF v0 i = 129 := by rw [y]; decide
                refine pq_ok (fun _ => k2_step h (fun _ w1 g1 => k2_next hV.1 g1 hil (fun w2 g2 => pq_pc (pq_some ?_))))
                rw [if_neg (fun x => m23 (s23.mp (Or.inl x))), if_neg (fun x => m23 (s23.mp (Or.inr x))), if_neg (fun x => by rw [s4.mp x] at y; exact absurd y (by decide))]
                refine pp_pu ?_
                have r0 := h'.x78 (a := 0)
                rw [if_pos (s128.mpr y)]
                refine y_rA r0 (by decide) (y_cost r0 (fun x1 r1 => y_emit r1 (fun _ x2 r2 => y_adv r2 (by omega) (fun x3 r3 => pp_some (Or.inr ⟨3, rfl, ⟨rfl, KD_3, _, _, g2.x17, r3, sfe_17, cne_0, fun z => ?_⟩, hil⟩)))))
                rw [y] at z
                exact absurd z (by decide)
              · have nm := id' (jx_m (j_number (N := N) (ro := FE_ N d') hV h h' hil (Or.inl y)) (fun b w r x q => (⟨q, hil⟩ : EOq v0 u0 i (i + 1) o l e b w r x ∧ i + 1 ≤ n)))
                rw [if_neg (by rw [y]; decide), if_neg n33, if_neg n40, if_neg n45, if_neg n126, if_pos y]
                rcases s23.mpr y with x | x
                · rw [if_pos x]
                  exact nm
                · rw [if_neg (by rw [x]; decide), if_pos x]
                  exact nm
              · have nm := id' (jx_m (j_number (N := N) (ro := FE_ N d') hV h h' hil (Or.inr y)) (fun b w r x q => (⟨q, hil⟩ : EOq v0 u0 i (i + 1) o l e b w r x ∧ i + 1 ≤ n)))
                have m23 : ¬ tyF v0 i = 129 := by rw [y]; decide
                rw [if_neg (show ¬ tyF v0 i = 29 by rw [y]; decide), if_neg n33, if_neg n40, if_neg n45, if_neg n126, if_neg m23, if_pos y]
                rw [if_neg (fun x => m23 (s23.mp (Or.inl x))), if_neg (fun x => m23 (s23.mp (Or.inr x))), if_pos (s4.mpr y)]
                exact nm
            · exact (oR_r q4).elim
theorem j_exp (hV : EV2 v0 u0 n) (ho : b → o < 24) (ho3 : o ≤ 24) (hX : HX2 N v0 u0 n o l X) (hOo : ∀ d d' i j v u e c, O i (.inr j) → i ≤ n → CE v0 v i l e → RE u0 u i o l c → 0 ≤ e.1.toInt → e.1.toInt ≤ 10 * o + 10 → jx (FTE_ N d 2 0 0 0 v) (FE_ N d' 2 0 0 u) (fun q w r x => EOq v0 u0 i j o l e q w r x ∧ j ≤ n)) (hPg : Pg O) (hD : dEx (tyF v0) b X O i (.inr j)) (hi : i ≤ n) (h : CE v0 v i l e) (h' : RE u0 u i o l c) (h0 : 0 ≤ e.1.toInt) (h1 : e.1.toInt ≤ 10 * o) : jx (FTE_ N d 0 0 0 0 v) (FE_ N d' 0 0 0 u) (fun q w r x => EPq v0 u0 j o l e q w r x ∧ j ≤ n) := by
  have hn2 := hV.2.1.2.2
  obtain ⟨k1, p1, mm, p2⟩ := oS_r hD
  obtain ⟨k, p3, p4⟩ := oWn_split mm k1 p2
  cases d with
  | zero => exact jx_n1 rfl
  | succ d =>
    cases d' with
    | zero => exact jx_n2 rfl
    | succ d' =>
      have h_ro : ∀ q a b u, KP (FE_ N d' q a b u) u := sk_FE_ d'
      show jx (F_X8_expression N (FTE_ N d) v) (F_expression N (FE_ N d') u) _
      unfold F_X8_expression B_X8_expression_0 F_expression B_expression_0
      refine jx_bt (A := fun q w r x => EPq v0 u0 k o l e q w r x ∧ k ≤ n) ?_ ?_ (fun _ _ => by repeat' (first | exact KP_some kp_rf | with_reducible refine KP_bn ?_ (fun _ _ => ?_) | with_reducible refine KP_if ?_ ?_ | with_reducible refine KP_rd (fun _ => ?_) | with_reducible refine KP_zr ?_ | (with_reducible refine KP_pu2 ?_ ?_; first | exact ks_sI (by decide) kp_rf | exact ks_sL kp_rf | exact ks_sA (by decide) kp_rf | exact ks_sB (by decide) kp_rf) | (with_reducible refine KP_wr2 ?_ ?_; first | exact ks_sA (by decide) kp_rf | exact ks_sB (by decide) kp_rf) | with_reducible exact h_ro _ _ _ _ | with_reducible exact sk_F_is | with_reducible exact sk_F_take | with_reducible exact sk_F_emit | with_reducible exact sk_F_wrong | with_reducible exact sk_F_cost | with_reducible exact sk_F_stuck | with_reducible exact sk_F_ends | with_reducible exact sk_F_begins | with_reducible exact sk_F_opens | with_reducible exact sk_F_has | with_reducible exact sk_F_isNumber | with_reducible exact sk_F_isNext | with_reducible exact sk_F_push | with_reducible exact sk_F_lead | with_reducible exact sk_F_here | with_reducible exact sk_F_kind | with_reducible exact sk_F_isKind | with_reducible exact sk_F_own | with_reducible exact sk_F_constant | with_reducible exact sk_F_bounded | with_reducible exact sk_F_joined | with_reducible exact sk_F_strength | with_reducible exact sk_F_leadAll | with_reducible exact sk_F_loop | with_reducible exact sk_F_label | with_reducible exact sk_F_leaves | with_reducible exact sk_F_telling | with_reducible exact sk_F_local | with_reducible exact sk_F_addSlot | with_reducible exact sk_F_addVariable | with_reducible exact sk_F_isTooWide | with_reducible exact sk_F_named | with_reducible exact sk_F_slotOf | with_reducible exact sk_F_bad | with_reducible exact sk_G_expression | with_reducible exact sk_G_spot | with_reducible exact sk_G_body | with_reducible exact sk_G_stat | (with_reducible refine sk_B_expression_119 ?_ <;> assumption) | (with_reducible refine sk_B_expression_0 ?_ <;> assumption) | (with_reducible refine sk_F_expression ?_ <;> assumption) | with_reducible exact sk_G_expression))
      · cases d with
        | zero => exact jx_n1 rfl
        | succ d =>
          cases d' with
          | zero => exact jx_n2 rfl
          | succ d' =>
            have h_ro : ∀ q a b u, KP (FE_ N d' q a b u) u := sk_FE_ d'
            show jx (F_X8_operators N (FTE_ N d) v) (F_two N (FE_ N d') 1 u) _
            unfold F_X8_operators B_X8_operators_0 F_two B_two_0
            refine jx_bt (hOo d d' i k1 v u e c p1 hi h h' h0 (by omega)) ?_ (fun _ _ => by repeat' (first | exact KP_some kp_rf | with_reducible refine KP_bn ?_ (fun _ _ => ?_) | with_reducible refine KP_if ?_ ?_ | with_reducible refine KP_rd (fun _ => ?_) | with_reducible refine KP_zr ?_ | (with_reducible refine KP_pu2 ?_ ?_; first | exact ks_sI (by decide) kp_rf | exact ks_sL kp_rf | exact ks_sA (by decide) kp_rf | exact ks_sB (by decide) kp_rf) | (with_reducible refine KP_wr2 ?_ ?_; first | exact ks_sA (by decide) kp_rf | exact ks_sB (by decide) kp_rf) | with_reducible exact h_ro _ _ _ _ | with_reducible exact sk_F_is | with_reducible exact sk_F_take | with_reducible exact sk_F_emit | with_reducible exact sk_F_wrong | with_reducible exact sk_F_cost | with_reducible exact sk_F_stuck | with_reducible exact sk_F_ends | with_reducible exact sk_F_begins | with_reducible exact sk_F_opens | with_reducible exact sk_F_has | with_reducible exact sk_F_isNumber | with_reducible exact sk_F_isNext | with_reducible exact sk_F_push | with_reducible exact sk_F_lead | with_reducible exact sk_F_here | with_reducible exact sk_F_kind | with_reducible exact sk_F_isKind | with_reducible exact sk_F_own | with_reducible exact sk_F_constant | with_reducible exact sk_F_bounded | with_reducible exact sk_F_joined | with_reducible exact sk_F_strength | with_reducible exact sk_F_leadAll | with_reducible exact sk_F_loop | with_reducible exact sk_F_label | with_reducible exact sk_F_leaves | with_reducible exact sk_F_telling | with_reducible exact sk_F_local | with_reducible exact sk_F_addSlot | with_reducible exact sk_F_addVariable | with_reducible exact sk_F_isTooWide | with_reducible exact sk_F_named | with_reducible exact sk_F_slotOf | with_reducible exact sk_F_bad | with_reducible exact sk_G_expression | with_reducible exact sk_G_spot | with_reducible exact sk_G_body | with_reducible exact sk_G_stat | (with_reducible refine sk_B_two_159 ?_ ?_ <;> assumption) | (with_reducible refine sk_B_two_124 ?_ ?_ <;> assumption) | (with_reducible refine sk_B_two_71 ?_ ?_ <;> assumption) | (with_reducible refine sk_B_two_10 ?_ ?_ <;> assumption) | (with_reducible refine sk_LP_two_10 ?_ _ _ <;> assumption) | (with_reducible refine sk_B_two_0 ?_ <;> assumption) | (with_reducible refine sk_F_two ?_ <;> assumption)))
            rintro b2 w2 q2 x2 ⟨⟨rfl, kd, e2, c2, g2, r2, s2, n2, -⟩, hk1⟩
            refine k2_type g2 (pq_pb (fun a ha => ?_))
            rw [cS_N] at ha
            cases ha
            have hKK : KK N d' N 1 (fun r w => some (r, w)) b2 x2 = bn (F_strength N x2) fun r_32 u_31 => LP_two_10 N (FE_ N d') N (1, b2, r_32, u_31) := by
              unfold KK
              simp only [bn_id]
            rw [← hKK]
            have e16 : cI v 16 = e.1 := by rw [← h.2.2.2]; rfl
            have z0 : (0 : Int32).toInt = 0 := by decide
            refine jx_m (j_ops (base := e.1.toInt.toNat) (a0 := e.2.2.2) (lb := cI v 16) hV (by rw [e16]; omega) (by omega) hPg.le (fun dC d'' i' j' v' u' e' c' a1 a2 a3 a4 a5 a6 => hOo dC d'' i' j' v' u' e' c' a1 a2 a3 a4 a5 (by omega)) mm k1 k [] _ b2 w2 x2 e2 c2 N 0 d p3 hk1 ?_ (sfe_nn s2 h0) trivial ⟨d', N, rfl⟩ g2 r2 kd (Or.inl ⟨rfl, n2⟩) ?_ (by rw [z0]; decide) (by rw [z0]; omega)) ?_
            · show e2.1.toInt.toNat = e.1.toInt.toNat
              rw [s2.1]
            · intro a ha
              exact s2.2 a (by omega)
            · rintro b3 w3 r3 x3 ⟨a1, a2, e3, c3, a3, a4, a5, a6, a7, a8⟩
              refine ⟨⟨a1, a2, e3, c3, a3, a4, ⟨tI_eq.mpr (by omega), fun a ha => a6 a (by omega)⟩, a7⟩, a8⟩
      · rintro b2 w2 q2 x2 ⟨⟨rfl, kd, e2, c2, g2, r2, s2, n2⟩, hkn⟩
        rcases oF_r p4 with ⟨z, q⟩ | ⟨z, q⟩
        · obtain ⟨k2, q1, q2⟩ := oS_r q
          obtain ⟨-, pb, rfl⟩ := oP_r q1
          obtain ⟨k3, q3, q4⟩ := oS_r q2
          obtain ⟨k4, q5, q6⟩ := oS_r q4
          obtain ⟨t3, rfl⟩ := oT_r q5
          have ho2 := ho pb
          have hkl : k < n := hV.lt hkn (by rw [z]; exact nEnd (by decide) (by decide) (by decide))
          refine k2_if g2 (fun _ => ?_) (fun y => absurd z y)
          refine k2_here g2 (pq_ok (fun _ => k2_step g2 (fun _ w3 g3 => k2_next hV.1 g3 hkl (fun w4 g4 => ?_))))
          refine jx_r (y_if hV.2.1 (t := 63) (by decide +kernel) r2 hkn (fun _ => ?_) (fun y => absurd z y))
          refine y_opens r2 ho2 (fun x3 r3 => y_rA r3 (by decide) (y_cost r3 (fun x4 r4 => y_adv r4 (by omega) (fun x5 r5 => y_emit r5 (fun _ x6 r6 => jx_l ?_)))))
          refine jx_bt (hX ho2 d d' (k + 1) k3 w4 x6 e2 c2 q3 hkl g4 r6 (sfe_nn s2 h0) (by have := sfe_lo s2 h1; omega)) ?_ (fun _ _ => by repeat' (first | exact KP_some kp_rf | with_reducible refine KP_bn ?_ (fun _ _ => ?_) | with_reducible refine KP_if ?_ ?_ | with_reducible refine KP_rd (fun _ => ?_) | with_reducible refine KP_zr ?_ | (with_reducible refine KP_pu2 ?_ ?_; first | exact ks_sI (by decide) kp_rf | exact ks_sL kp_rf | exact ks_sA (by decide) kp_rf | exact ks_sB (by decide) kp_rf) | (with_reducible refine KP_wr2 ?_ ?_; first | exact ks_sA (by decide) kp_rf | exact ks_sB (by decide) kp_rf) | with_reducible exact h_ro _ _ _ _ | with_reducible exact sk_F_is | with_reducible exact sk_F_take | with_reducible exact sk_F_emit | with_reducible exact sk_F_wrong | with_reducible exact sk_F_cost | with_reducible exact sk_F_stuck | with_reducible exact sk_F_ends | with_reducible exact sk_F_begins | with_reducible exact sk_F_opens | with_reducible exact sk_F_has | with_reducible exact sk_F_isNumber | with_reducible exact sk_F_isNext | with_reducible exact sk_F_push | with_reducible exact sk_F_lead | with_reducible exact sk_F_here | with_reducible exact sk_F_kind | with_reducible exact sk_F_isKind | with_reducible exact sk_F_own | with_reducible exact sk_F_constant | with_reducible exact sk_F_bounded | with_reducible exact sk_F_joined | with_reducible exact sk_F_strength | with_reducible exact sk_F_leadAll | with_reducible exact sk_F_loop | with_reducible exact sk_F_label | with_reducible exact sk_F_leaves | with_reducible exact sk_F_telling | with_reducible exact sk_F_local | with_reducible exact sk_F_addSlot | with_reducible exact sk_F_addVariable | with_reducible exact sk_F_isTooWide | with_reducible exact sk_F_named | with_reducible exact sk_F_slotOf | with_reducible exact sk_F_bad | with_reducible exact sk_G_expression | with_reducible exact sk_G_spot | with_reducible exact sk_G_body | with_reducible exact sk_G_stat | (with_reducible refine sk_B_expression_119 ?_ <;> assumption) | (with_reducible refine sk_B_expression_0 ?_ <;> assumption) | (with_reducible refine sk_F_expression ?_ <;> assumption) | with_reducible exact sk_G_expression))
          rintro b7 w7 q7 x7 ⟨⟨rfl, kd7, e7, c7, g7, r7, s7, n7⟩, hk3⟩
          have hk3l : k3 < n := hV.lt hk3 (by rw [t3]; exact nEnd (by decide) (by decide) (by decide))
          refine pq_ok (fun _ => k2_step g7 (fun _ w8 g8 => pq_ok (fun _ => k2_land g8 (fun w9 g9 => k2_next hV.1 g9 hk3l (fun w10 g10 => ?_)))))
          refine jx_r (y_emit r7 (fun _ x8 r8 => y_lead r8 (fun x9 r9 => y_take hV.2.1 (t := 58) (by decide +kernel) r9 hk3l t3 (fun x10 r10 => jx_l ?_))))
          refine jx_bt (hX ho2 d d' (k3 + 1) j w10 x10 e7 c7 q6 hk3l g10 r10 (sfe_nn s7 (sfe_nn s2 h0)) (by have := sfe_lo s7 (sfe_lo s2 h1); omega)) ?_ (fun _ _ => by repeat' (first | exact KP_some kp_rf | with_reducible refine KP_bn ?_ (fun _ _ => ?_) | with_reducible refine KP_if ?_ ?_ | with_reducible refine KP_rd (fun _ => ?_) | with_reducible refine KP_zr ?_ | (with_reducible refine KP_pu2 ?_ ?_; first | exact ks_sI (by decide) kp_rf | exact ks_sL kp_rf | exact ks_sA (by decide) kp_rf | exact ks_sB (by decide) kp_rf) | (with_reducible refine KP_wr2 ?_ ?_; first | exact ks_sA (by decide) kp_rf | exact ks_sB (by decide) kp_rf) | with_reducible exact h_ro _ _ _ _ | with_reducible exact sk_F_is | with_reducible exact sk_F_take | with_reducible exact sk_F_emit | with_reducible exact sk_F_wrong | with_reducible exact sk_F_cost | with_reducible exact sk_F_stuck | with_reducible exact sk_F_ends | with_reducible exact sk_F_begins | with_reducible exact sk_F_opens | with_reducible exact sk_F_has | with_reducible exact sk_F_isNumber | with_reducible exact sk_F_isNext | with_reducible exact sk_F_push | with_reducible exact sk_F_lead | with_reducible exact sk_F_here | with_reducible exact sk_F_kind | with_reducible exact sk_F_isKind | with_reducible exact sk_F_own | with_reducible exact sk_F_constant | with_reducible exact sk_F_bounded | with_reducible exact sk_F_joined | with_reducible exact sk_F_strength | with_reducible exact sk_F_leadAll | with_reducible exact sk_F_loop | with_reducible exact sk_F_label | with_reducible exact sk_F_leaves | with_reducible exact sk_F_telling | with_reducible exact sk_F_local | with_reducible exact sk_F_addSlot | with_reducible exact sk_F_addVariable | with_reducible exact sk_F_isTooWide | with_reducible exact sk_F_named | with_reducible exact sk_F_slotOf | with_reducible exact sk_F_bad | with_reducible exact sk_G_expression | with_reducible exact sk_G_spot | with_reducible exact sk_G_body | with_reducible exact sk_G_stat | (with_reducible refine sk_B_expression_119 ?_ <;> assumption) | (with_reducible refine sk_B_expression_0 ?_ <;> assumption) | (with_reducible refine sk_F_expression ?_ <;> assumption) | with_reducible exact sk_G_expression))
          rintro b11 w11 q11 x11 ⟨⟨rfl, kd11, e11, c11, g11, r11, s11, n11⟩, hjn⟩
          refine pq_ok (fun _ => k2_land g11 (fun w12 g12 => pq_pc (pq_some ?_)))
          refine y_lead r11 (fun x12 r12 => y_dec r12 (by omega) (fun x13 r13 => pp_pu ?_))
          have res : ∀ a : Int32, a = n_as b7 b11 → KD a → pp (some (a, sI x13 78 0)) (fun r x => OFx (fun q w r x => EPq v0 u0 j o l e q w r x ∧ j ≤ n) (.inr (n_as b7 b11)) (xI w12 17 0) r x) := by
            intro a ha hk
            subst ha
            exact pp_some (Or.inr ⟨_, rfl, ⟨rfl, hk, _, _, g12.x17, r13.x78, sfe_tr s2 (sfe_tr s7 (sfe_tr s11 sfe_17)), cne_0⟩, hjn⟩)
          unfold B_expression_119
          unfold n_as at res
          refine pp_if (fun y => res 4 (by rw [if_pos (Or.inl y)]) KD_4) (fun y => pp_if (fun y2 => res 4 (by rw [if_pos (Or.inr y2)]) KD_4) (fun y2 => res 3 (by rw [if_neg (fun x => x.elim y y2)]) KD_3))
        · have hj := oE_r q
          subst hj
          refine k2_if g2 (fun y => absurd y z) (fun _ => pq_some ?_)
          refine y_if hV.2.1 (t := 63) (by decide +kernel) r2 hkn (fun y => absurd y z) (fun _ => pp_some (Or.inr ⟨_, rfl, ⟨rfl, kd, e2, c2, g2, r2, s2, n2⟩, hkn⟩))
/-- all levels -/
theorem j_all (hV : EV2 v0 u0 n) : ∀ L o, o + L = 25 → (∀ l d d' i j v u e c, dX (tyF v0) L i (.inr j) → i ≤ n → CE v0 v i l e → RE u0 u i o l c → 0 ≤ e.1.toInt → e.1.toInt ≤ 10 * o → jx (FTE_ N d 0 0 0 0 v) (FE_ N d' 0 0 0 u) (fun q w r x => EPq v0 u0 j o l e q w r x ∧ j ≤ n)) ∧ (∀ l d d' i j v u e c, dO (tyF v0) L i (.inr j) → i ≤ n → CE v0 v i l e → RE u0 u i o l c → 0 ≤ e.1.toInt → e.1.toInt ≤ 10 * o + 10 → jx (FTE_ N d 2 0 0 0 v) (FE_ N d' 2 0 0 u) (fun q w r x => EOq v0 u0 i j o l e q w r x ∧ j ≤ n)) := by
  intro L
  induction L with
  | zero => exact fun o _ => ⟨fun l d d' i j v u e c q => (oR_r q).elim, fun l d d' i j v u e c q => (oR_r q).elim⟩
  | succ L ih =>
    intro o hoL
    have ih' := ih (o + 1) (by omega)
    have hX : ∀ l, HX2 N v0 u0 n o l (dX (tyF v0) L) := fun l _ d d' i j v u e c a1 a2 a3 a4 a5 a6 => ih'.1 l d d' i j v u e c a1 a2 a3 a4 a5 (by omega)
    have hO : ∀ l, HO2 N v0 u0 n o l (dO (tyF v0) L) := fun l _ d d' i j v u e c a1 a2 a3 a4 a5 a6 => ih'.2 l d d' i j v u e c a1 a2 a3 a4 a5 (by omega)
    have pe := pg_EO (ty := tyF v0) L
    have hb : 0 < L → o < 24 := fun _ => by omega
    have op : ∀ l d d' i j v u e c, dO (tyF v0) (L + 1) i (.inr j) → i ≤ n → CE v0 v i l e → RE u0 u i o l c → 0 ≤ e.1.toInt → e.1.toInt ≤ 10 * o + 10 → jx (FTE_ N d 2 0 0 0 v) (FE_ N d' 2 0 0 u) (fun q w r x => EOq v0 u0 i j o l e q w r x ∧ j ≤ n) := fun l d d' i j v u e c a1 a2 a3 a4 a5 a6 => j_opd hV hb (hX l) (hO l) pe.1 a1 a2 a3 a4 a5 a6
    refine ⟨fun l d d' i j v u e c a1 a2 a3 a4 a5 a6 => ?_, op⟩
    exact j_exp (O := dO (tyF v0) (L + 1)) hV hb (by omega) (hX l) (op l) (pg_EO (ty := tyF v0) (L + 1)).2 a1 a2 a3 a4 a5 a6
/-- E, both -/
theorem j_E {L : Nat} (hV : EV2 v0 u0 n) (hL : o + L = 25) (hD : dX (tyF v0) L i (.inr j)) (hi : i ≤ n) (h : CE v0 v i l e) (h' : RE u0 u i o l c) (h0 : 0 ≤ e.1.toInt) (h1 : e.1.toInt ≤ 10 * o) : jx (G_X8_expression N v) (G_expression N u) (fun q w r x => EPq v0 u0 j o l e q w r x ∧ j ≤ n) := (j_all hV L o hL).1 l 300 400 i j v u e c hD hi h h' h0 h1
end Ex
