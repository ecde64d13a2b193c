/-! The second pass: if; for. -/
section St4
variable {v0 v : CSt} {u0 u : RSt} {i j o l n N m d d' t : Nat} {e : E5} {c : R5} {X E B S : Rl} {b : Prop} {p l1 l3 l5 l6 l7 l8 : Int32}
/-- if: behind a body -/
theorem j_choiceT (hV : EV2 v0 u0 n) (hE : HE2 N v0 u0 n o l E) (hB : HB2 N v0 u0 n o l B) (hPg : Pl (oS E B)) :
    ∀ q i j v u e c M M' k a a' b', oWn (fun i => tyF v0 i = 18) (oN (oS E B)) (oF (fun i => tyF v0 i = 19) (oN B) oE) q i (.inr j) → i ≤ n → k ≤ i → CE v0 v i l e → RE u0 u i o l c → e.1 = 0 → jx (bc (F_X9_is N 18 v) fun r_26 u_25 => LP_X3_choice_7 N (FMS_ N d) M (p, a, r_26, Int32.ofNat k, u_25)) (LP_choice_20 N (FS_ N d') M' (a', b', u)) (SJq v0 u0 n j o l) := by
  have hn2 := hV.2.1.2.2
  have e15 : (1500 : Int32).toInt = 1500 := by decide
  have h_ro : ∀ q a b u, KP (FS_ N d' q a b u) u := sk_FS_ d'
  intro q
  induction q with
  | zero =>
    rintro i j v u e c M M' k a a' b' ⟨z, hD⟩ hi hki h h' h0
    refine k2_is h (fun y => absurd y z) (fun _ => ?_)
    cases M with
    | zero => exact jx_n1 rfl
    | succ M =>
      cases M' with
      | zero => exact jx_n2 rfl
      | succ M' =>
        show jx (B_X3_choice_7 N (FMS_ N d) (LP_X3_choice_7 N (FMS_ N d) M) p a 0 (Int32.ofNat k) v) (B_choice_20 N (FS_ N d') (LP_choice_20 N (FS_ N d') M') a' b' u) _
        have h110 : ∀ (l2 l3 : Int32) (w : CSt) (x : RSt) (e2 : E5) (c2 : R5), CE v0 w j l e2 → RE u0 x j o l c2 → e2.1 = 0 → j ≤ n → jx (B_X3_choice_113 N (FMS_ N d) a w) (B_choice_110 N (FS_ N d') l2 l3 x) (SJq v0 u0 n j o l) := by
          intro l2 l3 w x e2 c2 hw hx h02 hjn
          unfold B_X3_choice_113 B_choice_110 B_choice_120
          refine pq_ok (fun _ => k2_land hw (fun w2 g2 => pq_some ?_))
          exact pp_if (fun _ => y_leadAll hx (fun x2 r2 => pp_some (Or.inr ⟨_, rfl, e2, c2, g2, r2, h02, hjn⟩))) (fun _ => y_lead hx (fun x2 r2 => y_leadAll r2 (fun x3 r3 => pp_some (Or.inr ⟨_, rfl, e2, c2, g2, r3, h02, hjn⟩))))
        have fin : jx (B_X3_choice_90 N (FMS_ N d) a v) (B_choice_20 N (FS_ N d') (LP_choice_20 N (FS_ N d') M') a' b' u) (SJq v0 u0 n j o l) := by
          unfold B_X3_choice_90 B_choice_20
          refine jx_r (y_if hV.2.1 (t := 18) (by decide +kernel) h' hi (fun y => absurd y z) (fun _ => jx_l ?_))
          rcases oF_r hD with ⟨y, q⟩ | ⟨y, q⟩
          · have hil := hV.lt hi (by rw [y]; exact nEnd (by decide) (by decide) (by decide))
            refine k2_if h (fun _ => k2_next hV.1 h hil (fun w1 g1 => ?_)) (fun x => absurd y x)
            refine jx_r (y_if hV.2.1 (t := 19) (by decide +kernel) h' hi (fun _ => ?_) (fun x => absurd y x))
            unfold B_choice_38
            refine y_is hV.2.1 (t := 19) (by decide +kernel) h' hi (fun _ => ?_) (fun x => absurd y x)
            refine y_emit h' (fun a1 x1 r1 => y_lead r1 (fun x2 r2 => y_adv r2 (by omega) (fun x3 r3 => ?_)))
            rw [if_neg (by decide)]
            unfold B_choice_95
            refine jx_l (jx_bt (hB d d' (i + 1) j w1 x3 e c q hil g1 r3 h0) ?_ (fun _ _ => by repeat' (first | exact KP_some kp_rf | with_reducible refine KP_bn ?_ (fun _ _ => ?_) | with_reducible refine KP_if ?_ ?_ | with_reducible refine KP_rd (fun _ => ?_) | with_reducible refine KP_zr ?_ | (with_reducible refine KP_pu2 ?_ ?_; first | exact ks_sI (by decide) kp_rf | exact ks_sL kp_rf | exact ks_sA (by decide) kp_rf | exact ks_sB (by decide) kp_rf) | (with_reducible refine KP_wr2 ?_ ?_; first | exact ks_sA (by decide) kp_rf | exact ks_sB (by decide) kp_rf) | with_reducible exact h_ro _ _ _ _ | with_reducible exact sk_F_is | with_reducible exact sk_F_take | with_reducible exact sk_F_emit | with_reducible exact sk_F_wrong | with_reducible exact sk_F_cost | with_reducible exact sk_F_stuck | with_reducible exact sk_F_ends | with_reducible exact sk_F_begins | with_reducible exact sk_F_opens | with_reducible exact sk_F_has | with_reducible exact sk_F_isNumber | with_reducible exact sk_F_isNext | with_reducible exact sk_F_push | with_reducible exact sk_F_lead | with_reducible exact sk_F_here | with_reducible exact sk_F_kind | with_reducible exact sk_F_isKind | with_reducible exact sk_F_own | with_reducible exact sk_F_constant | with_reducible exact sk_F_bounded | with_reducible exact sk_F_joined | with_reducible exact sk_F_strength | with_reducible exact sk_F_leadAll | with_reducible exact sk_F_loop | with_reducible exact sk_F_label | with_reducible exact sk_F_leaves | with_reducible exact sk_F_telling | with_reducible exact sk_F_local | with_reducible exact sk_F_addSlot | with_reducible exact sk_F_addVariable | with_reducible exact sk_F_isTooWide | with_reducible exact sk_F_named | with_reducible exact sk_F_slotOf | with_reducible exact sk_F_bad | with_reducible exact sk_G_expression | with_reducible exact sk_G_spot | with_reducible exact sk_G_body | with_reducible exact sk_G_stat | (with_reducible refine sk_B_choice_120 ?_ <;> assumption) | (with_reducible refine sk_B_choice_110 ?_ <;> assumption) | (with_reducible refine sk_B_choice_95 ?_ ?_ <;> assumption) | (with_reducible refine sk_B_choice_38 ?_ ?_ <;> assumption) | (with_reducible refine sk_B_choice_20 ?_ ?_ <;> assumption) | (with_reducible refine sk_LP_choice_20 ?_ _ _ <;> assumption) | (with_reducible refine sk_B_choice_0 ?_ <;> assumption) | (with_reducible refine sk_F_choice ?_ <;> assumption))))
            rintro b2 w2 q2 x2 ⟨e2, c2, g2, r2, h02, hjn⟩
            rw [if_neg (by decide)]
            exact h110 _ _ w2 x2 e2 c2 g2 r2 h02 hjn
          · have ej := oE_r q
            subst ej
            refine k2_if h (fun x => absurd x y) (fun _ => ?_)
            refine jx_r (y_if hV.2.1 (t := 19) (by decide +kernel) h' hi (fun x => absurd x y) (fun _ => jx_l ?_))
            exact h110 _ _ v u e c h h' h0 hi
        unfold B_X3_choice_7
        refine pq_if (fun _ => fin) (fun _ => ?_)
        rw [if_pos rfl]
        exact fin
  | succ q ih =>
    rintro i j v u e c M M' k a a' b' ⟨z, hD⟩ hi hki h h' h0
    have z : tyF v0 i = 18 := z
    obtain ⟨k2, p0, p2⟩ := oS_r hD
    obtain ⟨k1, p1, p3⟩ := oS_r (show oS E B (i + 1) (.inr k2) from p0)
    have hil := hV.lt hi (by rw [z]; exact nEnd (by decide) (by decide) (by decide))
    have hle := hPg _ _ p0
    have ki := ofN_i (k := k) (by omega)
    refine k2_is h (fun _ => ?_) (fun y => absurd z y)
    cases M with
    | zero => exact jx_n1 rfl
    | succ M =>
      cases M' with
      | zero => exact jx_n2 rfl
      | succ M' =>
        show jx (B_X3_choice_7 N (FMS_ N d) (LP_X3_choice_7 N (FMS_ N d) M) p a 1 (Int32.ofNat k) v) (B_choice_20 N (FS_ N d') (LP_choice_20 N (FS_ N d') M') a' b' u) _
        unfold B_X3_choice_7 B_choice_20
        rw [if_neg (fun y => by have := Int32.le_iff_toInt_le.mp y; rw [e15] at this; omega), if_neg (by decide)]
        refine k2_next hV.1 h hil (fun w1 g1 => ?_)
        refine jx_r (y_if hV.2.1 (t := 18) (by decide +kernel) h' hi (fun _ => ?_) (fun y => absurd z y))
        unfold B_choice_38
        refine y_is hV.2.1 (t := 19) (by decide +kernel) h' hi (fun y => by rw [z] at y; exact absurd y (by decide)) (fun _ => ?_)
        refine y_emit h' (fun a1 x1 r1 => y_lead r1 (fun x2 r2 => y_adv r2 (by omega) (fun x3 r3 => ?_)))
        rw [if_pos rfl]
        refine jx_l (jx_bt (hE (i + 1) k1 w1 x3 e c p1 hil g1 r3 h0) ?_ (fun _ _ => by have h_R_20 := sk_LP_choice_20 (N := N) h_ro M'; repeat' (first | exact KP_some kp_rf | with_reducible refine KP_bn ?_ (fun _ _ => ?_) | with_reducible refine KP_if ?_ ?_ | with_reducible refine KP_rd (fun _ => ?_) | with_reducible refine KP_zr ?_ | (with_reducible refine KP_pu2 ?_ ?_; first | exact ks_sI (by decide) kp_rf | exact ks_sL kp_rf | exact ks_sA (by decide) kp_rf | exact ks_sB (by decide) kp_rf) | (with_reducible refine KP_wr2 ?_ ?_; first | exact ks_sA (by decide) kp_rf | exact ks_sB (by decide) kp_rf) | with_reducible exact h_ro _ _ _ _ | with_reducible exact sk_F_is | with_reducible exact sk_F_take | with_reducible exact sk_F_emit | with_reducible exact sk_F_wrong | with_reducible exact sk_F_cost | with_reducible exact sk_F_stuck | with_reducible exact sk_F_ends | with_reducible exact sk_F_begins | with_reducible exact sk_F_opens | with_reducible exact sk_F_has | with_reducible exact sk_F_isNumber | with_reducible exact sk_F_isNext | with_reducible exact sk_F_push | with_reducible exact sk_F_lead | with_reducible exact sk_F_here | with_reducible exact sk_F_kind | with_reducible exact sk_F_isKind | with_reducible exact sk_F_own | with_reducible exact sk_F_constant | with_reducible exact sk_F_bounded | with_reducible exact sk_F_joined | with_reducible exact sk_F_strength | with_reducible exact sk_F_leadAll | with_reducible exact sk_F_loop | with_reducible exact sk_F_label | with_reducible exact sk_F_leaves | with_reducible exact sk_F_telling | with_reducible exact sk_F_local | with_reducible exact sk_F_addSlot | with_reducible exact sk_F_addVariable | with_reducible exact sk_F_isTooWide | with_reducible exact sk_F_named | with_reducible exact sk_F_slotOf | with_reducible exact sk_F_bad | with_reducible exact sk_G_expression | with_reducible exact sk_G_spot | with_reducible exact sk_G_body | with_reducible exact sk_G_stat | (with_reducible refine sk_B_choice_120 ?_ <;> assumption) | (with_reducible refine sk_B_choice_110 ?_ <;> assumption) | (with_reducible refine sk_B_choice_95 ?_ ?_ <;> assumption) | (with_reducible refine sk_B_choice_38 ?_ ?_ <;> assumption) | (with_reducible refine sk_B_choice_20 ?_ ?_ <;> assumption) | (with_reducible refine sk_LP_choice_20 ?_ _ _ <;> assumption) | (with_reducible refine sk_B_choice_0 ?_ <;> assumption) | (with_reducible refine sk_F_choice ?_ <;> assumption))))
        rintro b4 w4 q4 x4 ⟨⟨rfl, kd, e4, c4, g4, r4, s4, n4⟩, hk1⟩
        refine pq_ok (fun _ => k2_step g4 (fun _ w5 g5 => ?_))
        refine jx_r (y_emit r4 (fun a5 x5 r5 => jx_l ?_))
        unfold B_choice_95
        refine jx_bt (hB d d' k1 k2 w5 x5 e4 c4 p3 hk1 g5 r5 (sfe_0 s4 h0)) ?_ (fun _ _ => by have h_R_20 := sk_LP_choice_20 (N := N) h_ro M'; repeat' (first | exact KP_some kp_rf | with_reducible refine KP_bn ?_ (fun _ _ => ?_) | with_reducible refine KP_if ?_ ?_ | with_reducible refine KP_rd (fun _ => ?_) | with_reducible refine KP_zr ?_ | (with_reducible refine KP_pu2 ?_ ?_; first | exact ks_sI (by decide) kp_rf | exact ks_sL kp_rf | exact ks_sA (by decide) kp_rf | exact ks_sB (by decide) kp_rf) | (with_reducible refine KP_wr2 ?_ ?_; first | exact ks_sA (by decide) kp_rf | exact ks_sB (by decide) kp_rf) | with_reducible exact h_ro _ _ _ _ | with_reducible exact sk_F_is | with_reducible exact sk_F_take | with_reducible exact sk_F_emit | with_reducible exact sk_F_wrong | with_reducible exact sk_F_cost | with_reducible exact sk_F_stuck | with_reducible exact sk_F_ends | with_reducible exact sk_F_begins | with_reducible exact sk_F_opens | with_reducible exact sk_F_has | with_reducible exact sk_F_isNumber | with_reducible exact sk_F_isNext | with_reducible exact sk_F_push | with_reducible exact sk_F_lead | with_reducible exact sk_F_here | with_reducible exact sk_F_kind | with_reducible exact sk_F_isKind | with_reducible exact sk_F_own | with_reducible exact sk_F_constant | with_reducible exact sk_F_bounded | with_reducible exact sk_F_joined | with_reducible exact sk_F_strength | with_reducible exact sk_F_leadAll | with_reducible exact sk_F_loop | with_reducible exact sk_F_label | with_reducible exact sk_F_leaves | with_reducible exact sk_F_telling | with_reducible exact sk_F_local | with_reducible exact sk_F_addSlot | with_reducible exact sk_F_addVariable | with_reducible exact sk_F_isTooWide | with_reducible exact sk_F_named | with_reducible exact sk_F_slotOf | with_reducible exact sk_F_bad | with_reducible exact sk_G_expression | with_reducible exact sk_G_spot | with_reducible exact sk_G_body | with_reducible exact sk_G_stat | (with_reducible refine sk_B_choice_120 ?_ <;> assumption) | (with_reducible refine sk_B_choice_110 ?_ <;> assumption) | (with_reducible refine sk_B_choice_95 ?_ ?_ <;> assumption) | (with_reducible refine sk_B_choice_38 ?_ ?_ <;> assumption) | (with_reducible refine sk_B_choice_20 ?_ ?_ <;> assumption) | (with_reducible refine sk_LP_choice_20 ?_ _ _ <;> assumption) | (with_reducible refine sk_B_choice_0 ?_ <;> assumption) | (with_reducible refine sk_F_choice ?_ <;> assumption)))
        rintro b6 w6 q6 x6 ⟨e6, c6, g6, r6, h06, hk2⟩
        rw [if_pos rfl]
        refine pq_ok (fun _ => k2_step g6 (fun a7 w7 g7 => pq_ok (fun _ => k2_land g7 (fun w8 g8 => ?_))))
        rw [ofN1 (by omega)]
        exact ih k2 j w8 x6 e6 c6 M M' (k + 1) _ _ _ p2 hk2 (by omega) g8 r6 h06
theorem j_choice (hV : EV2 v0 u0 n) (hE : HE2 N v0 u0 n o l E) (hB : HB2 N v0 u0 n o l B) (hPg : Pl (oS E B)) (hD : dCho (tyF v0) E B i (.inr j)) (hi : i < n) (h : CE v0 v i l e) (h' : RE u0 u (i + 1) o l c) (h0 : e.1 = 0) : jx (FMS_ N d 3 0 p 0 v) (FS_ N d' 2 0 0 u) (SJq v0 u0 n j o l) := by
  obtain ⟨k1, p1, p2⟩ := oS_r (show oS E (oS B (dEl (tyF v0) E B)) (i + 1) (.inr j) from hD)
  obtain ⟨k2, p3, q, p4⟩ := oS_r p2
  have hle := hPg _ _ (show oS E B (i + 1) (.inr k2) from Or.inl ⟨k1, p1, p3⟩)
  cases d with
  | zero => exact jx_n1 rfl
  | succ d =>
    cases d' with
    | zero => exact jx_n2 rfl
    | succ d' =>
      have h_ro : ∀ q a b u, KP (FS_ N d' q a b u) u := sk_FS_ d'
      show jx (F_X3_choice N (FMS_ N d) p v) (F_choice N (FS_ N d') u) _
      unfold F_X3_choice B_X3_choice_0 F_choice B_choice_0
      have main : ∀ M, jx (LP_X3_choice_7 N (FMS_ N d) M (p, -1, 1, 0, v)) (bn (G_expression N u) fun r_24 u_23 => bn (F_emit N 26 0 0 u_23) fun r_26 u_25 => bn (FS_ N d' 0 0 0 u_25) fun _ u_27 => LP_choice_20 N (FS_ N d') N (r_26, (-1), u_27)) (SJq v0 u0 n j o l) := by
        intro M
        cases M with
        | zero => exact jx_n1 rfl
        | succ M =>
          show jx (B_X3_choice_7 N (FMS_ N d) (LP_X3_choice_7 N (FMS_ N d) M) p (-1) 1 (Int32.ofNat 0) v) _ _
          unfold B_X3_choice_7
          rw [if_neg (by decide), if_neg (by decide)]
          refine k2_next hV.1 h hi (fun w1 g1 => ?_)
          refine jx_bt (hE (i + 1) k1 w1 u e c p1 hi g1 h' h0) ?_ (fun _ _ => by repeat' (first | exact KP_some kp_rf | with_reducible refine KP_bn ?_ (fun _ _ => ?_) | with_reducible refine KP_if ?_ ?_ | with_reducible refine KP_rd (fun _ => ?_) | with_reducible refine KP_zr ?_ | (with_reducible refine KP_pu2 ?_ ?_; first | exact ks_sI (by decide) kp_rf | exact ks_sL kp_rf | exact ks_sA (by decide) kp_rf | exact ks_sB (by decide) kp_rf) | (with_reducible refine KP_wr2 ?_ ?_; first | exact ks_sA (by decide) kp_rf | exact ks_sB (by decide) kp_rf) | with_reducible exact h_ro _ _ _ _ | with_reducible exact sk_F_is | with_reducible exact sk_F_take | with_reducible exact sk_F_emit | with_reducible exact sk_F_wrong | with_reducible exact sk_F_cost | with_reducible exact sk_F_stuck | with_reducible exact sk_F_ends | with_reducible exact sk_F_begins | with_reducible exact sk_F_opens | with_reducible exact sk_F_has | with_reducible exact sk_F_isNumber | with_reducible exact sk_F_isNext | with_reducible exact sk_F_push | with_reducible exact sk_F_lead | with_reducible exact sk_F_here | with_reducible exact sk_F_kind | with_reducible exact sk_F_isKind | with_reducible exact sk_F_own | with_reducible exact sk_F_constant | with_reducible exact sk_F_bounded | with_reducible exact sk_F_joined | with_reducible exact sk_F_strength | with_reducible exact sk_F_leadAll | with_reducible exact sk_F_loop | with_reducible exact sk_F_label | with_reducible exact sk_F_leaves | with_reducible exact sk_F_telling | with_reducible exact sk_F_local | with_reducible exact sk_F_addSlot | with_reducible exact sk_F_addVariable | with_reducible exact sk_F_isTooWide | with_reducible exact sk_F_named | with_reducible exact sk_F_slotOf | with_reducible exact sk_F_bad | with_reducible exact sk_G_expression | with_reducible exact sk_G_spot | with_reducible exact sk_G_body | with_reducible exact sk_G_stat | (with_reducible refine sk_B_choice_120 ?_ <;> assumption) | (with_reducible refine sk_B_choice_110 ?_ <;> assumption) | (with_reducible refine sk_B_choice_95 ?_ ?_ <;> assumption) | (with_reducible refine sk_B_choice_38 ?_ ?_ <;> assumption) | (with_reducible refine sk_B_choice_20 ?_ ?_ <;> assumption) | (with_reducible refine sk_LP_choice_20 ?_ _ _ <;> assumption) | (with_reducible refine sk_B_choice_0 ?_ <;> assumption) | (with_reducible refine sk_F_choice ?_ <;> assumption)))
          rintro b4 w4 q4 x4 ⟨⟨rfl, kd, e4, c4, g4, r4, s4, n4⟩, hk1⟩
          refine pq_ok (fun _ => k2_step g4 (fun _ w5 g5 => ?_))
          refine jx_r (y_emit r4 (fun a5 x5 r5 => jx_l ?_))
          refine jx_bt (hB d d' k1 k2 w5 x5 e4 c4 p3 hk1 g5 r5 (sfe_0 s4 h0)) ?_ (fun _ _ => by repeat' (first | exact KP_some kp_rf | with_reducible refine KP_bn ?_ (fun _ _ => ?_) | with_reducible refine KP_if ?_ ?_ | with_reducible refine KP_rd (fun _ => ?_) | with_reducible refine KP_zr ?_ | (with_reducible refine KP_pu2 ?_ ?_; first | exact ks_sI (by decide) kp_rf | exact ks_sL kp_rf | exact ks_sA (by decide) kp_rf | exact ks_sB (by decide) kp_rf) | (with_reducible refine KP_wr2 ?_ ?_; first | exact ks_sA (by decide) kp_rf | exact ks_sB (by decide) kp_rf) | with_reducible exact h_ro _ _ _ _ | with_reducible exact sk_F_is | with_reducible exact sk_F_take | with_reducible exact sk_F_emit | with_reducible exact sk_F_wrong | with_reducible exact sk_F_cost | with_reducible exact sk_F_stuck | with_reducible exact sk_F_ends | with_reducible exact sk_F_begins | with_reducible exact sk_F_opens | with_reducible exact sk_F_has | with_reducible exact sk_F_isNumber | with_reducible exact sk_F_isNext | with_reducible exact sk_F_push | with_reducible exact sk_F_lead | with_reducible exact sk_F_here | with_reducible exact sk_F_kind | with_reducible exact sk_F_isKind | with_reducible exact sk_F_own | with_reducible exact sk_F_constant | with_reducible exact sk_F_bounded | with_reducible exact sk_F_joined | with_reducible exact sk_F_strength | with_reducible exact sk_F_leadAll | with_reducible exact sk_F_loop | with_reducible exact sk_F_label | with_reducible exact sk_F_leaves | with_reducible exact sk_F_telling | with_reducible exact sk_F_local | with_reducible exact sk_F_addSlot | with_reducible exact sk_F_addVariable | with_reducible exact sk_F_isTooWide | with_reducible exact sk_F_named | with_reducible exact sk_F_slotOf | with_reducible exact sk_F_bad | with_reducible exact sk_G_expression | with_reducible exact sk_G_spot | with_reducible exact sk_G_body | with_reducible exact sk_G_stat | (with_reducible refine sk_B_choice_120 ?_ <;> assumption) | (with_reducible refine sk_B_choice_110 ?_ <;> assumption) | (with_reducible refine sk_B_choice_95 ?_ ?_ <;> assumption) | (with_reducible refine sk_B_choice_38 ?_ ?_ <;> assumption) | (with_reducible refine sk_B_choice_20 ?_ ?_ <;> assumption) | (with_reducible refine sk_LP_choice_20 ?_ _ _ <;> assumption) | (with_reducible refine sk_B_choice_0 ?_ <;> assumption) | (with_reducible refine sk_F_choice ?_ <;> assumption)))
          rintro b6 w6 q6 x6 ⟨e6, c6, g6, r6, h06, hk2⟩
          refine pq_ok (fun _ => k2_step g6 (fun a7 w7 g7 => pq_ok (fun _ => k2_land g7 (fun w8 g8 => ?_))))
          rw [ofN1 (by omega)]
          exact j_choiceT hV hE hB hPg q k2 j w8 x6 e6 c6 M N (0 + 1) _ _ _ p4 hk2 (by omega) g8 r6 h06
      exact main N
/-! for -/
theorem MN_0 {s : Int32} {g : Int32 → Int32} (hM : MN v0 u0 n m s g) : (s = -1 ∧ g 0 = -1 ∧ ¬ (mI v0 m 2 = 0 ∨ mI v0 m 2 = 5 ∨ mI v0 m 2 = 6)) ∨ (¬ (s = -1 ∧ g 0 = -1) ∧ ¬ mI v0 m 2 = 8 ∧ (mI v0 m 2 = 0 ∨ mI v0 m 2 = 5 ∨ mI v0 m 2 = 6) ∧ KD (mI v0 m 5) ∧ mI v0 m 5 = spK u0 s (160 * u0.1 56 + g 0) ∧ mI v0 m 8 = spR u0 s (160 * u0.1 56 + g 0) ∧ ((mI v0 m 2 = 0 ∧ mI v0 m 6 = 2) ↔ (s = -1 ∧ u0.2.2.1 12 (160 * u0.1 56 + g 0).toNatClampNeg = 2))) := by
  rcases hM with ⟨m1, m2, m3, m4⟩ | ⟨m1, m2, m3, m4, m5⟩ | ⟨m1, m2, m3, m4, m5⟩ | ⟨m1, m2, m3, m4⟩ | ⟨m1, m2, m3, m4⟩ | ⟨m1, m2, m3, m4, m5⟩ | ⟨m1, m2, m3, m4, m5⟩ | ⟨m1, m2, m3⟩
  · obtain ⟨a1, a2, a3, a4⟩ := m4
    refine Or.inr ⟨fun q => m1 q.1, ?_, Or.inr m3, a3, ?_, ?_, ?_⟩
    · rcases m3 with z | z <;> (rw [z]; decide)
    · unfold spK; rw [if_neg m1]; exact a1
    · unfold spR; rw [if_neg m1]; exact a2
    · refine ⟨fun q => ?_, fun q => absurd q.1 m1⟩
      rcases m3 with z | z <;> (rw [z] at q; exact absurd q.1 (by decide))
  · obtain ⟨a1, a2, a3, a4, a5⟩ := m5
    refine Or.inr ⟨fun q => m3 q.2, by rw [m2]; decide, Or.inl m2, a4, ?_, ?_, ?_⟩
    · unfold spK; rw [if_pos m1]; exact a1
    · unfold spR; rw [if_pos m1]; exact a2
    · exact ⟨fun q => ⟨m1, a3.mp q.2⟩, fun q => ⟨m2, a3.mpr q.2⟩⟩
  · exact Or.inl ⟨m1, m4 0 (by decide), by rw [m2]; decide⟩
  · exact Or.inl ⟨m1, m4 0 (by decide), by rw [m2]; decide⟩
  · exact Or.inl ⟨m1, m4 0 (by decide), by rw [m2]; decide⟩
  · exact Or.inl ⟨m1, m4 0 (by decide), by rw [m2]; decide⟩
  · exact Or.inl ⟨m1, m4 0 (by decide), by rw [m2]; decide⟩
  · exact Or.inl ⟨m1, m3 0, by rw [m2]; decide⟩
/-- for, behind the NAME -/
theorem j_279 {s0 : Int32} (hV : EV2 v0 u0 n) (hl : l ≤ 100) (hE : HE2 N v0 u0 n o l E) (hB : HB2 N v0 u0 n o (l + 1) B) (hkd : KD (mI v0 m 5)) (hD : oS (oT (tyF v0) 61) (oS E (oS (oT (tyF v0) 11822) (oS E B))) (i + 1) (.inr j)) (hi : i < n) (h : CE v0 v i l e) (h' : RE u0 u i o l c) (h0 : e.1 = 0) : jx (B_X3_counted_71 N (FMS_ N d) p (cA v0 204 i) m v) (B_counts_279 N (FS_ N d') l1 (mI v0 m 5) l8 s0 u) (SJq v0 u0 n j o l) := by
  have hn2 := hV.2.1.2.2
  have hj := hV.2.2.2.2.1
  have h_ro : ∀ q a b u, KP (FS_ N d' q a b u) u := sk_FS_ d'
  obtain ⟨k1, p1, p2⟩ := oS_r hD
  obtain ⟨t1, rfl⟩ := oT_r p1
  obtain ⟨k2, p3, p4⟩ := oS_r p2
  obtain ⟨k3, p5, p6⟩ := oS_r p4
  obtain ⟨t2, rfl⟩ := oT_r p5
  obtain ⟨k4, p7, p8⟩ := oS_r p6
  have hi1 : i + 1 < n := hV.lt (i := i + 1) hi (by rw [t1]; exact nEnd (by decide) (by decide) (by decide))
  unfold B_X3_counted_71 B_counts_279
  refine k2_next hV.1 h hi (fun w1 g1 => ?_)
  unfold F_X3_setPlain B_X3_setPlain_0
  rw [bt_bc]
  refine k2_here g1 ?_
  rw [bt_bc]
  refine k2_next hV.1 g1 hi1 (fun w2 g2 => ?_)
  rw [bt_as]
  refine jx_r (y_adv h' (by omega) (fun x1 r1 => y_rA r1 (by decide) (y_take hV.2.1 (t := 61) (by decide +kernel) r1 hi1 t1 (fun x2 r2 => y_emit r2 (fun a2 x3 r3 => jx_l ?_)))))
  refine jx_bt (hE (i + 1 + 1) k2 w2 x3 e c p3 hi1 g2 r3 h0) ?_ (fun _ _ => by repeat' (first | exact KP_some kp_rf | with_reducible refine KP_bn ?_ (fun _ _ => ?_) | with_reducible refine KP_if ?_ ?_ | with_reducible refine KP_rd (fun _ => ?_) | with_reducible refine KP_zr ?_ | (with_reducible refine KP_pu2 ?_ ?_; first | exact ks_sI (by decide) kp_rf | exact ks_sL kp_rf | exact ks_sA (by decide) kp_rf | exact ks_sB (by decide) kp_rf) | (with_reducible refine KP_wr2 ?_ ?_; first | exact ks_sA (by decide) kp_rf | exact ks_sB (by decide) kp_rf) | with_reducible exact h_ro _ _ _ _ | with_reducible exact sk_F_is | with_reducible exact sk_F_take | with_reducible exact sk_F_emit | with_reducible exact sk_F_wrong | with_reducible exact sk_F_cost | with_reducible exact sk_F_stuck | with_reducible exact sk_F_ends | with_reducible exact sk_F_begins | with_reducible exact sk_F_opens | with_reducible exact sk_F_has | with_reducible exact sk_F_isNumber | with_reducible exact sk_F_isNext | with_reducible exact sk_F_push | with_reducible exact sk_F_lead | with_reducible exact sk_F_here | with_reducible exact sk_F_kind | with_reducible exact sk_F_isKind | with_reducible exact sk_F_own | with_reducible exact sk_F_constant | with_reducible exact sk_F_bounded | with_reducible exact sk_F_joined | with_reducible exact sk_F_strength | with_reducible exact sk_F_leadAll | with_reducible exact sk_F_loop | with_reducible exact sk_F_label | with_reducible exact sk_F_leaves | with_reducible exact sk_F_telling | with_reducible exact sk_F_local | with_reducible exact sk_F_addSlot | with_reducible exact sk_F_addVariable | with_reducible exact sk_F_isTooWide | with_reducible exact sk_F_named | with_reducible exact sk_F_slotOf | with_reducible exact sk_F_bad | with_reducible exact sk_G_expression | with_reducible exact sk_G_spot | with_reducible exact sk_G_body | with_reducible exact sk_G_stat | (with_reducible refine sk_B_counts_279 ?_ <;> assumption) | (with_reducible refine sk_B_counts_247 ?_ <;> assumption) | (with_reducible refine sk_B_counts_220 ?_ <;> assumption) | (with_reducible refine sk_B_counts_185 ?_ <;> assumption) | (with_reducible refine sk_B_counts_180 ?_ <;> assumption) | (with_reducible refine sk_B_counts_184 ?_ <;> assumption) | (with_reducible refine sk_B_counts_121 ?_ <;> assumption) | (with_reducible refine sk_B_counts_120 ?_ <;> assumption) | (with_reducible refine sk_B_counts_97 ?_ <;> assumption) | (with_reducible refine sk_B_counts_96 ?_ <;> assumption) | (with_reducible refine sk_B_counts_78 ?_ <;> assumption) | (with_reducible refine sk_B_counts_77 ?_ <;> assumption) | (with_reducible refine sk_B_counts_56 ?_ <;> assumption) | (with_reducible refine sk_B_counts_0 ?_ <;> assumption) | (with_reducible refine sk_F_counts ?_ <;> assumption)))
  rintro b4 w4 q4 x4 ⟨⟨rfl, kd, e4, c4, g4, r4, s4, n4⟩, hk2⟩
  have hk2l : k2 < n := hV.lt hk2 (by rw [t2]; exact nEnd (by decide) (by decide) (by decide))
  obtain ⟨rr, hb01, tC, tR⟩ := tw_same (N := N) kd hkd g4 r4 n4
  refine jx_r (tR (jx_l ?_))
  rw [bt_bc, g4.nm]
  refine tC ?_
  rcases hb01 with hr | hr
  · subst hr
    rw [if_pos rfl, bt_inr]
    refine jx_r (y_ok rfl (y_emit r4 (fun a5 x5 r5 => y_take hV.2.1 (t := 11822) (by decide +kernel) r5 hk2l t2 (fun x6 r6 => jx_l ?_))))
    refine k2_set g4 (fun w5 g5 => k2_next hV.1 g5 hk2l (fun w6 g6 => ?_))
    refine jx_bt (hE (k2 + 1) k4 w6 x6 e4 c4 p7 hk2l g6 r6 (sfe_0 s4 h0)) ?_ (fun _ _ => by repeat' (first | exact KP_some kp_rf | with_reducible refine KP_bn ?_ (fun _ _ => ?_) | with_reducible refine KP_if ?_ ?_ | with_reducible refine KP_rd (fun _ => ?_) | with_reducible refine KP_zr ?_ | (with_reducible refine KP_pu2 ?_ ?_; first | exact ks_sI (by decide) kp_rf | exact ks_sL kp_rf | exact ks_sA (by decide) kp_rf | exact ks_sB (by decide) kp_rf) | (with_reducible refine KP_wr2 ?_ ?_; first | exact ks_sA (by decide) kp_rf | exact ks_sB (by decide) kp_rf) | with_reducible exact h_ro _ _ _ _ | with_reducible exact sk_F_is | with_reducible exact sk_F_take | with_reducible exact sk_F_emit | with_reducible exact sk_F_wrong | with_reducible exact sk_F_cost | with_reducible exact sk_F_stuck | with_reducible exact sk_F_ends | with_reducible exact sk_F_begins | with_reducible exact sk_F_opens | with_reducible exact sk_F_has | with_reducible exact sk_F_isNumber | with_reducible exact sk_F_isNext | with_reducible exact sk_F_push | with_reducible exact sk_F_lead | with_reducible exact sk_F_here | with_reducible exact sk_F_kind | with_reducible exact sk_F_isKind | with_reducible exact sk_F_own | with_reducible exact sk_F_constant | with_reducible exact sk_F_bounded | with_reducible exact sk_F_joined | with_reducible exact sk_F_strength | with_reducible exact sk_F_leadAll | with_reducible exact sk_F_loop | with_reducible exact sk_F_label | with_reducible exact sk_F_leaves | with_reducible exact sk_F_telling | with_reducible exact sk_F_local | with_reducible exact sk_F_addSlot | with_reducible exact sk_F_addVariable | with_reducible exact sk_F_isTooWide | with_reducible exact sk_F_named | with_reducible exact sk_F_slotOf | with_reducible exact sk_F_bad | with_reducible exact sk_G_expression | with_reducible exact sk_G_spot | with_reducible exact sk_G_body | with_reducible exact sk_G_stat | (with_reducible refine sk_B_counts_279 ?_ <;> assumption) | (with_reducible refine sk_B_counts_247 ?_ <;> assumption) | (with_reducible refine sk_B_counts_220 ?_ <;> assumption) | (with_reducible refine sk_B_counts_185 ?_ <;> assumption) | (with_reducible refine sk_B_counts_180 ?_ <;> assumption) | (with_reducible refine sk_B_counts_184 ?_ <;> assumption) | (with_reducible refine sk_B_counts_121 ?_ <;> assumption) | (with_reducible refine sk_B_counts_120 ?_ <;> assumption) | (with_reducible refine sk_B_counts_97 ?_ <;> assumption) | (with_reducible refine sk_B_counts_96 ?_ <;> assumption) | (with_reducible refine sk_B_counts_78 ?_ <;> assumption) | (with_reducible refine sk_B_counts_77 ?_ <;> assumption) | (with_reducible refine sk_B_counts_56 ?_ <;> assumption) | (with_reducible refine sk_B_counts_0 ?_ <;> assumption) | (with_reducible refine sk_F_counts ?_ <;> assumption)))
    rintro b7 w7 q7 x7 ⟨⟨rfl, kd7, e7, c7, g7, r7, s7, n7⟩, hk4⟩
    refine pq_ok (fun _ => k2_get g7 (fun w8 g8 => pq_ok (fun _ => k2_step g8 (fun a9 w9 g9 => pq_pc ?_))))
    refine jx_r (y_here (fun a8 => y_emit r7 (fun _ x8 r8 => y_emit r8 (fun _ x9 r9 => y_emit r9 (fun a10 x10 r10 => y_cost r10 (fun x11 r11 => y_loop r11 hl (fun x12 r12 => jx_l ?_)))))))
    refine j_round hV hl hB p8 hk4 (g9.x6 (Or.inl rfl)) r12 (sfe_0 s7 (sfe_0 s4 h0)) ?_ (fun _ _ => by repeat' (first | exact KP_some kp_rf | with_reducible refine KP_bn ?_ (fun _ _ => ?_) | with_reducible refine KP_if ?_ ?_ | with_reducible refine KP_rd (fun _ => ?_) | with_reducible refine KP_zr ?_ | (with_reducible refine KP_pu2 ?_ ?_; first | exact ks_sI (by decide) kp_rf | exact ks_sL kp_rf | exact ks_sA (by decide) kp_rf | exact ks_sB (by decide) kp_rf) | (with_reducible refine KP_wr2 ?_ ?_; first | exact ks_sA (by decide) kp_rf | exact ks_sB (by decide) kp_rf) | with_reducible exact h_ro _ _ _ _ | with_reducible exact sk_F_is | with_reducible exact sk_F_take | with_reducible exact sk_F_emit | with_reducible exact sk_F_wrong | with_reducible exact sk_F_cost | with_reducible exact sk_F_stuck | with_reducible exact sk_F_ends | with_reducible exact sk_F_begins | with_reducible exact sk_F_opens | with_reducible exact sk_F_has | with_reducible exact sk_F_isNumber | with_reducible exact sk_F_isNext | with_reducible exact sk_F_push | with_reducible exact sk_F_lead | with_reducible exact sk_F_here | with_reducible exact sk_F_kind | with_reducible exact sk_F_isKind | with_reducible exact sk_F_own | with_reducible exact sk_F_constant | with_reducible exact sk_F_bounded | with_reducible exact sk_F_joined | with_reducible exact sk_F_strength | with_reducible exact sk_F_leadAll | with_reducible exact sk_F_loop | with_reducible exact sk_F_label | with_reducible exact sk_F_leaves | with_reducible exact sk_F_telling | with_reducible exact sk_F_local | with_reducible exact sk_F_addSlot | with_reducible exact sk_F_addVariable | with_reducible exact sk_F_isTooWide | with_reducible exact sk_F_named | with_reducible exact sk_F_slotOf | with_reducible exact sk_F_bad | with_reducible exact sk_G_expression | with_reducible exact sk_G_spot | with_reducible exact sk_G_body | with_reducible exact sk_G_stat | (with_reducible refine sk_B_counts_279 ?_ <;> assumption) | (with_reducible refine sk_B_counts_247 ?_ <;> assumption) | (with_reducible refine sk_B_counts_220 ?_ <;> assumption) | (with_reducible refine sk_B_counts_185 ?_ <;> assumption) | (with_reducible refine sk_B_counts_180 ?_ <;> assumption) | (with_reducible refine sk_B_counts_184 ?_ <;> assumption) | (with_reducible refine sk_B_counts_121 ?_ <;> assumption) | (with_reducible refine sk_B_counts_120 ?_ <;> assumption) | (with_reducible refine sk_B_counts_97 ?_ <;> assumption) | (with_reducible refine sk_B_counts_96 ?_ <;> assumption) | (with_reducible refine sk_B_counts_78 ?_ <;> assumption) | (with_reducible refine sk_B_counts_77 ?_ <;> assumption) | (with_reducible refine sk_B_counts_56 ?_ <;> assumption) | (with_reducible refine sk_B_counts_0 ?_ <;> assumption) | (with_reducible refine sk_F_counts ?_ <;> assumption)))
    intro w13 q13 x13 e13 c13 g13 r13 h013 hjn
    refine k2_get g13 (fun w14 g14 => pq_ok (fun _ => k2_step g14 (fun a15 w15 g15 => pq_pc ?_)))
    refine k2_get (g15.x6 (Or.inl rfl)) (fun w16 g16 => pq_ok (fun _ => k2_const g16 (fun w17 g17 => k2_combine g17 (fun w18 g18 => k2_set g18 (fun w19 g19 => pq_ok (fun _ => k2_step g19 (fun _ w20 g20 => pq_ok (fun _ => k2_land g20 (fun w21 g21 => pq_pc (pq_ok (fun _ => k2_step (g21.x6 (Or.inl rfl)) (fun _ w22 g22 => pq_some ?_))))))))))))
    refine y_un r13 hl (fun x14 r14 => pp_rd (y_leadAll r14 (fun x15 r15 => y_emit r15 (fun _ x16 r16 => y_emit r16 (fun _ x17 r17 => y_emit r17 (fun a18 x18 r18 => y_emit r18 (fun _ x19 r19 => y_emit r19 (fun _ x20 r20 => y_push r20 (fun x21 r21 => y_joined r21 (fun x22 r22 => y_emit r22 (fun _ x23 r23 => y_emit r23 (fun _ x24 r24 => y_lead r24 (fun x25 r25 => y_lead r25 (fun x26 r26 => pp_rd (y_leadAll r26 (fun x27 r27 => y_emit r27 (fun _ x28 r28 => pp_some (Or.inr ⟨_, rfl, e13, c13, g22, r28, h013, hjn⟩))))))))))))))))))
  · subst hr
    rw [if_neg (by decide), bt_as, hV.pl (i := i + 1) hi]
    exact jx_ref (y_bad hj r4 (by decide) (by decide) (fun _ _ => by repeat' (first | exact KP_some kp_rf | with_reducible refine KP_bn ?_ (fun _ _ => ?_) | with_reducible refine KP_if ?_ ?_ | with_reducible refine KP_rd (fun _ => ?_) | with_reducible refine KP_zr ?_ | (with_reducible refine KP_pu2 ?_ ?_; first | exact ks_sI (by decide) kp_rf | exact ks_sL kp_rf | exact ks_sA (by decide) kp_rf | exact ks_sB (by decide) kp_rf) | (with_reducible refine KP_wr2 ?_ ?_; first | exact ks_sA (by decide) kp_rf | exact ks_sB (by decide) kp_rf) | with_reducible exact h_ro _ _ _ _ | with_reducible exact sk_F_is | with_reducible exact sk_F_take | with_reducible exact sk_F_emit | with_reducible exact sk_F_wrong | with_reducible exact sk_F_cost | with_reducible exact sk_F_stuck | with_reducible exact sk_F_ends | with_reducible exact sk_F_begins | with_reducible exact sk_F_opens | with_reducible exact sk_F_has | with_reducible exact sk_F_isNumber | with_reducible exact sk_F_isNext | with_reducible exact sk_F_push | with_reducible exact sk_F_lead | with_reducible exact sk_F_here | with_reducible exact sk_F_kind | with_reducible exact sk_F_isKind | with_reducible exact sk_F_own | with_reducible exact sk_F_constant | with_reducible exact sk_F_bounded | with_reducible exact sk_F_joined | with_reducible exact sk_F_strength | with_reducible exact sk_F_leadAll | with_reducible exact sk_F_loop | with_reducible exact sk_F_label | with_reducible exact sk_F_leaves | with_reducible exact sk_F_telling | with_reducible exact sk_F_local | with_reducible exact sk_F_addSlot | with_reducible exact sk_F_addVariable | with_reducible exact sk_F_isTooWide | with_reducible exact sk_F_named | with_reducible exact sk_F_slotOf | with_reducible exact sk_F_bad | with_reducible exact sk_G_expression | with_reducible exact sk_G_spot | with_reducible exact sk_G_body | with_reducible exact sk_G_stat | (with_reducible refine sk_B_counts_279 ?_ <;> assumption) | (with_reducible refine sk_B_counts_247 ?_ <;> assumption) | (with_reducible refine sk_B_counts_220 ?_ <;> assumption) | (with_reducible refine sk_B_counts_185 ?_ <;> assumption) | (with_reducible refine sk_B_counts_180 ?_ <;> assumption) | (with_reducible refine sk_B_counts_184 ?_ <;> assumption) | (with_reducible refine sk_B_counts_121 ?_ <;> assumption) | (with_reducible refine sk_B_counts_120 ?_ <;> assumption) | (with_reducible refine sk_B_counts_97 ?_ <;> assumption) | (with_reducible refine sk_B_counts_96 ?_ <;> assumption) | (with_reducible refine sk_B_counts_78 ?_ <;> assumption) | (with_reducible refine sk_B_counts_77 ?_ <;> assumption) | (with_reducible refine sk_B_counts_56 ?_ <;> assumption) | (with_reducible refine sk_B_counts_0 ?_ <;> assumption) | (with_reducible refine sk_F_counts ?_ <;> assumption))))
/-- for -/
theorem j_counts (hV : EV2 v0 u0 n) (hl : l ≤ 100) (hE : HE2 N v0 u0 n o l E) (hB : HB2 N v0 u0 n o (l + 1) B) (hD : dCnt (tyF v0) E B i (.inr j)) (hi : i < n) (h : CE v0 v i l e) (h' : RE u0 u (i + 1) o l c) (h0 : e.1 = 0) : jx (FMS_ N d 6 0 p 0 v) (FS_ N d' 4 l1 0 u) (SJq v0 u0 n j o l) := by
  have hj := hV.2.2.2.2.1
  obtain ⟨k1, p1, p2⟩ := oS_r (show oS (oT (tyF v0) 128) (oS (oT (tyF v0) 61) (oS E (oS (oT (tyF v0) 11822) (oS E B)))) (i + 1) (.inr j) from hD)
  obtain ⟨t1, rfl⟩ := oT_r p1
  have hi1 : i + 1 < n := hV.lt (i := i + 1) hi (by rw [t1]; exact nEnd (by decide) (by decide) (by decide))
  cases d with
  | zero => exact jx_n1 rfl
  | succ d =>
    cases d' with
    | zero => exact jx_n2 rfl
    | succ d' =>
      have h_ro : ∀ q a b u, KP (FS_ N d' q a b u) u := sk_FS_ d'
      show jx (F_X3_counted N (FMS_ N d) p v) (F_counts N (FS_ N d') l1 u) _
      obtain ⟨m, s, g, hm, hK, hM⟩ := hV.2.2.2.2.2.2 (i + 1) hi1 t1
      have hpl := hV.pl (i := i + 1) (Nat.le_of_lt hi1)
      have h69 : ∀ {x : RSt}, RE u0 x (i + 1) o l c → ¬ x.1 69 = 0 := fun hx => by rw [hx.sc (by decide)]; exact hj
      unfold F_X3_counted B_X3_counted_0
      refine k2_next hV.1 h hi (fun w1 g1 => k2_here g1 (k2_known hK g1 (pq_ok (fun _ => ?_))))
      rw [g1.nm]
      have ref0 : ∀ {Q : Int32 → RSt → Prop}, (s = -1 → g 0 = -1 → pp (B_counts_97 N (FS_ N d') l1 (u0.2.2.1 3 (i + 1)) s (g 0) 1 u) Q) → (∀ l4, (s = -1 → l4 = g 0) → ¬ (s = -1 ∧ g 0 = -1) → pp (B_counts_121 N (FS_ N d') l1 (u0.2.2.1 3 (i + 1)) s l4 1 u) Q) → pp (F_counts N (FS_ N d') l1 u) Q := by
        intro Q q1 q2
        have h96 : ∀ l4, (s = -1 → l4 = g 0) → ¬ (s = -1 ∧ g 0 = -1) → pp (B_counts_96 N (FS_ N d') l1 (u0.2.2.1 3 (i + 1)) s l4 u) Q := by
          intro l4 h4 hn
          unfold B_counts_96 B_counts_97
          refine y_ok rfl ?_
          rw [if_neg (h69 h'), if_pos h'.2.1]
          exact q2 l4 h4 hn
        unfold F_counts B_counts_0
        refine y_is hV.2.1 (t := 128) (by decide +kernel) h' (Nat.le_of_lt hi1) (fun _ => ?_) (fun y => absurd t1 y)
        rw [if_neg (by decide)]
        refine y_rA h' (by decide) ?_
        rw [if_neg (h69 h')]
        refine y_rB h' (by decide) (y_rB h' (by decide) (y_slotOf hK h' ?_))
        unfold B_counts_56
        refine pp_if (fun z => ?_) (fun z => ?_)
        · rw [if_neg (h69 h')]
          refine y_own hK h' ?_
          unfold B_counts_78
          rw [if_pos z]
          refine pp_if (fun z2 => ?_) (fun z2 => h96 _ (fun _ => rfl) (fun q => z2 q.2))
          rw [z2]
          have := q1 z z2
          rw [z2] at this
          exact this
        · unfold B_counts_77 B_counts_78
          rw [if_neg z]
          exact h96 _ (fun q => absurd q z) (fun q => z q.1)
      rcases MN_0 hM with ⟨m1, m2, m3⟩ | ⟨m1, m8, m2, m3, m4, m5, m6⟩
      · have bad : pp (F_counts N (FS_ N d') l1 u) (fun _ x => ¬ x.1 67 = 0 ∧ x.1 68 = cA v0 204 (i + 1)) := by
          refine ref0 (fun _ _ => ?_) (fun l4 _ q => absurd ⟨m1, m2⟩ q)
          unfold B_counts_97
          rw [hpl]
          exact y_bad hj h' (by decide) (by decide) (fun _ _ => by repeat' (first | exact KP_some kp_rf | with_reducible refine KP_bn ?_ (fun _ _ => ?_) | with_reducible refine KP_if ?_ ?_ | with_reducible refine KP_rd (fun _ => ?_) | with_reducible refine KP_zr ?_ | (with_reducible refine KP_pu2 ?_ ?_; first | exact ks_sI (by decide) kp_rf | exact ks_sL kp_rf | exact ks_sA (by decide) kp_rf | exact ks_sB (by decide) kp_rf) | (with_reducible refine KP_wr2 ?_ ?_; first | exact ks_sA (by decide) kp_rf | exact ks_sB (by decide) kp_rf) | with_reducible exact h_ro _ _ _ _ | with_reducible exact sk_F_is | with_reducible exact sk_F_take | with_reducible exact sk_F_emit | with_reducible exact sk_F_wrong | with_reducible exact sk_F_cost | with_reducible exact sk_F_stuck | with_reducible exact sk_F_ends | with_reducible exact sk_F_begins | with_reducible exact sk_F_opens | with_reducible exact sk_F_has | with_reducible exact sk_F_isNumber | with_reducible exact sk_F_isNext | with_reducible exact sk_F_push | with_reducible exact sk_F_lead | with_reducible exact sk_F_here | with_reducible exact sk_F_kind | with_reducible exact sk_F_isKind | with_reducible exact sk_F_own | with_reducible exact sk_F_constant | with_reducible exact sk_F_bounded | with_reducible exact sk_F_joined | with_reducible exact sk_F_strength | with_reducible exact sk_F_leadAll | with_reducible exact sk_F_loop | with_reducible exact sk_F_label | with_reducible exact sk_F_leaves | with_reducible exact sk_F_telling | with_reducible exact sk_F_local | with_reducible exact sk_F_addSlot | with_reducible exact sk_F_addVariable | with_reducible exact sk_F_isTooWide | with_reducible exact sk_F_named | with_reducible exact sk_F_slotOf | with_reducible exact sk_F_bad | with_reducible exact sk_G_expression | with_reducible exact sk_G_spot | with_reducible exact sk_G_body | with_reducible exact sk_G_stat | (with_reducible refine sk_B_counts_279 ?_ <;> assumption) | (with_reducible refine sk_B_counts_247 ?_ <;> assumption) | (with_reducible refine sk_B_counts_220 ?_ <;> assumption) | (with_reducible refine sk_B_counts_185 ?_ <;> assumption) | (with_reducible refine sk_B_counts_180 ?_ <;> assumption) | (with_reducible refine sk_B_counts_184 ?_ <;> assumption) | (with_reducible refine sk_B_counts_121 ?_ <;> assumption) | (with_reducible refine sk_B_counts_120 ?_ <;> assumption) | (with_reducible refine sk_B_counts_97 ?_ <;> assumption) | (with_reducible refine sk_B_counts_96 ?_ <;> assumption) | (with_reducible refine sk_B_counts_78 ?_ <;> assumption) | (with_reducible refine sk_B_counts_77 ?_ <;> assumption) | (with_reducible refine sk_B_counts_56 ?_ <;> assumption) | (with_reducible refine sk_B_counts_0 ?_ <;> assumption) | (with_reducible refine sk_F_counts ?_ <;> assumption)))
        by_cases y : mI v0 m 2 = 8
        · rw [if_pos y]
          exact jx_ref bad
        · rw [if_neg y]
          unfold B_X3_counted_41 B_X3_counted_62
          refine k2_hasNumbers g1 ?_
          rw [if_neg m3, if_pos rfl]
          exact jx_ref bad
      · rw [if_neg m8]
        have h62 : (¬ mI v0 m 8 = 0 ∨ (mI v0 m 2 = 0 ∧ mI v0 m 6 = 2)) → jx (B_X3_counted_62 N (FMS_ N d) p (cA v0 204 (i + 1)) m w1) (F_counts N (FS_ N d') l1 u) (SJq v0 u0 n j o l) := by
          intro hb
          unfold B_X3_counted_62
          refine jx_ref ?_
          refine ref0 (fun q1 q2 => absurd ⟨q1, q2⟩ m1) (fun l4 h4 _ => ?_)
          have h180 : ∀ l6, pp (B_counts_180 N (FS_ N d') l1 (u0.2.2.1 3 (i + 1)) s 1 l6 u) (fun _ x => ¬ x.1 67 = 0 ∧ x.1 68 = cA v0 204 (i + 1)) := by
            intro l6
            unfold B_counts_180 B_counts_185
            rw [hpl]
            exact y_bad hj h' (by decide) (by decide) (fun _ _ => by repeat' (first | exact KP_some kp_rf | with_reducible refine KP_bn ?_ (fun _ _ => ?_) | with_reducible refine KP_if ?_ ?_ | with_reducible refine KP_rd (fun _ => ?_) | with_reducible refine KP_zr ?_ | (with_reducible refine KP_pu2 ?_ ?_; first | exact ks_sI (by decide) kp_rf | exact ks_sL kp_rf | exact ks_sA (by decide) kp_rf | exact ks_sB (by decide) kp_rf) | (with_reducible refine KP_wr2 ?_ ?_; first | exact ks_sA (by decide) kp_rf | exact ks_sB (by decide) kp_rf) | with_reducible exact h_ro _ _ _ _ | with_reducible exact sk_F_is | with_reducible exact sk_F_take | with_reducible exact sk_F_emit | with_reducible exact sk_F_wrong | with_reducible exact sk_F_cost | with_reducible exact sk_F_stuck | with_reducible exact sk_F_ends | with_reducible exact sk_F_begins | with_reducible exact sk_F_opens | with_reducible exact sk_F_has | with_reducible exact sk_F_isNumber | with_reducible exact sk_F_isNext | with_reducible exact sk_F_push | with_reducible exact sk_F_lead | with_reducible exact sk_F_here | with_reducible exact sk_F_kind | with_reducible exact sk_F_isKind | with_reducible exact sk_F_own | with_reducible exact sk_F_constant | with_reducible exact sk_F_bounded | with_reducible exact sk_F_joined | with_reducible exact sk_F_strength | with_reducible exact sk_F_leadAll | with_reducible exact sk_F_loop | with_reducible exact sk_F_label | with_reducible exact sk_F_leaves | with_reducible exact sk_F_telling | with_reducible exact sk_F_local | with_reducible exact sk_F_addSlot | with_reducible exact sk_F_addVariable | with_reducible exact sk_F_isTooWide | with_reducible exact sk_F_named | with_reducible exact sk_F_slotOf | with_reducible exact sk_F_bad | with_reducible exact sk_G_expression | with_reducible exact sk_G_spot | with_reducible exact sk_G_body | with_reducible exact sk_G_stat | (with_reducible refine sk_B_counts_279 ?_ <;> assumption) | (with_reducible refine sk_B_counts_247 ?_ <;> assumption) | (with_reducible refine sk_B_counts_220 ?_ <;> assumption) | (with_reducible refine sk_B_counts_185 ?_ <;> assumption) | (with_reducible refine sk_B_counts_180 ?_ <;> assumption) | (with_reducible refine sk_B_counts_184 ?_ <;> assumption) | (with_reducible refine sk_B_counts_121 ?_ <;> assumption) | (with_reducible refine sk_B_counts_120 ?_ <;> assumption) | (with_reducible refine sk_B_counts_97 ?_ <;> assumption) | (with_reducible refine sk_B_counts_96 ?_ <;> assumption) | (with_reducible refine sk_B_counts_78 ?_ <;> assumption) | (with_reducible refine sk_B_counts_77 ?_ <;> assumption) | (with_reducible refine sk_B_counts_56 ?_ <;> assumption) | (with_reducible refine sk_B_counts_0 ?_ <;> assumption) | (with_reducible refine sk_F_counts ?_ <;> assumption)))
          have e56 : u.1 56 = u0.1 56 := h'.sc (by decide)
          unfold B_counts_121
          rw [if_neg (by decide)]
          unfold spR at m5
          refine pp_if (fun z => pp_rd ?_) (fun z => pp_rd ?_)
          · rw [if_pos z] at m5
            rw [h'.row (by decide), e56, h4 z, ← m5]
            refine pp_if (fun z2 => pp_rd ?_) (fun z2 => h180 _)
            rw [h'.row (by decide)]
            rcases hb with hb | hb
            · exact absurd z2 hb
            · rw [if_pos (m6.mp hb).2]
              exact h180 _
          · rw [if_neg z] at m5
            rw [h'.row (by decide), ← m5]
            rcases hb with hb | hb
            · rw [if_neg hb]
              exact h180 _
            · exact absurd (m6.mp hb).1 z
        have h71 : mI v0 m 8 = 0 → ¬ (mI v0 m 2 = 0 ∧ mI v0 m 6 = 2) → jx (B_X3_counted_71 N (FMS_ N d) p (cA v0 204 (i + 1)) m w1) (F_counts N (FS_ N d') l1 u) (SJq v0 u0 n j o l) := by
          intro hz hin
          refine jx_r (ref0 (fun q1 q2 => absurd ⟨q1, q2⟩ m1) (fun l4 h4 _ => ?_))
          have e56 : u.1 56 = u0.1 56 := h'.sc (by decide)
          have h247 : ∀ l8 l6, pp (B_counts_247 N (FS_ N d') l1 s 1 l6 (mI v0 m 5) l8 u) (fun r x => pq (B_X3_counted_71 N (FMS_ N d) p (cA v0 204 (i + 1)) m w1) (fun y w => OFx (SJq v0 u0 n j o l) y w r x)) := by
            intro l8 l6
            unfold B_counts_247
            rw [if_neg (by decide)]
            exact pp_if (fun _ => pp_rd (jx_l (j_279 hV hl hE hB m3 p2 hi1 g1 h' h0))) (fun _ => pp_rd (jx_l (j_279 hV hl hE hB m3 p2 hi1 g1 h' h0)))
          have h220 : ∀ l6, pp (B_counts_220 N (FS_ N d') l1 s 1 l6 (mI v0 m 5) u) (fun r x => pq (B_X3_counted_71 N (FMS_ N d) p (cA v0 204 (i + 1)) m w1) (fun y w => OFx (SJq v0 u0 n j o l) y w r x)) := by
            intro l6
            unfold B_counts_220
            exact pp_if (fun _ => h247 _ _) (fun _ => pp_if (fun _ => h247 _ _) (fun _ => h247 _ _))
          have h184 : ∀ l6, (s = -1 → l6 = 160 * u0.1 56 + g 0) → pp (B_counts_184 N (FS_ N d') l1 (u0.2.2.1 3 (i + 1)) s 1 l6 u) (fun r x => pq (B_X3_counted_71 N (FMS_ N d) p (cA v0 204 (i + 1)) m w1) (fun y w => OFx (SJq v0 u0 n j o l) y w r x)) := by
            intro l6 h6
            unfold B_counts_184 B_counts_185
            refine y_ok rfl ?_
            rw [if_neg (by decide)]
            have hk220 := h220 l6
            rw [m4] at hk220
            unfold spK at hk220
            refine pp_if (fun z => pp_rd ?_) (fun z => pp_rd ?_)
            · rw [if_pos z] at hk220
              rw [h'.row (by decide), h6 z]
              rw [h6 z] at hk220
              exact hk220
            · rw [if_neg z] at hk220
              rw [h'.row (by decide)]
              exact hk220
          unfold B_counts_121
          rw [if_neg (by decide)]
          unfold spR at m5
          refine pp_if (fun z => pp_rd ?_) (fun z => pp_rd ?_)
          · rw [if_pos z] at m5
            rw [h'.row (by decide), e56, h4 z, ← m5, if_pos hz]
            refine pp_rd ?_
            rw [h'.row (by decide), if_neg (fun q => hin (m6.mpr ⟨z, q⟩))]
            exact h184 _ (fun _ => rfl)
          · rw [if_neg z] at m5
            rw [h'.row (by decide), ← m5, if_pos hz]
            exact h184 _ (fun q => absurd q z)
        unfold B_X3_counted_41
        refine k2_hasNumbers g1 ?_
        rw [if_pos m2, if_neg (by decide), g1.nm]
        refine pq_if (fun z => k2_isInput g1 ?_) (fun z => h62 (Or.inl z))
        by_cases y : mI v0 m 2 = 0 ∧ mI v0 m 6 = 2
        · rw [if_pos y, if_neg (by decide)]
          exact h62 (Or.inr y)
        · rw [if_neg y, if_pos rfl]
          exact h71 z y
end St4
