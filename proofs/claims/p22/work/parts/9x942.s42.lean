/-! The second pass: case, Stat, by levels. -/
section St6
variable {v0 v : CSt} {u0 u : RSt} {i j o l n N m d d' t : Nat} {e : E5} {c : R5} {X E B B' S : Rl} {b : Prop} {p l1 l2 l3 l4 l5 : Int32}
theorem j_casesT (hV : EV2 v0 u0 n) (ho : o < 24) (hB : HB2 N v0 u0 n (o + 1) l B) (hPg : Pg B) (hB123 : ∀ i j, B i (.inr j) → tyF v0 i = 123) :
    ∀ q i j v u e c M M' k a a', oWn (fun i => tyF v0 i = 23) (oN (oS (dLab (tyF v0)) (dLl (tyF v0) B))) (oF (fun i => tyF v0 i = 24) (oN (oS B (oT (tyF v0) 125))) (oT (tyF v0) 125)) q i (.inr j) → i ≤ n → k ≤ i → CE v0 v i l e → RE u0 u i (o + 1) l c → e.1 = 0 → jx (LP_X3_cases_26 N (FMS_ N d) M (p, a, Int32.ofNat k, v)) (LP_cases_14 N (FS_ N d') M' (a', u)) (SJq v0 u0 n j o l) := by
  have hn2 := hV.2.1.2.2
  have e15 : (1500 : Int32).toInt = 1500 := by decide
  have h_ro : ∀ q a b u, KP (FS_ N d' q a b u) u := sk_FS_ d'
  intro q
  induction q with
  | zero =>
    rintro i j v u e c M M' k a a' ⟨z, hD⟩ hi hki h h' h0
    cases M with
    | zero => exact jx_n1 rfl
    | succ M =>
      cases M' with
      | zero => exact jx_n2 rfl
      | succ M' =>
        show jx (B_X3_cases_26 N (FMS_ N d) (LP_X3_cases_26 N (FMS_ N d) M) p a (Int32.ofNat k) v) (B_cases_14 N (FS_ N d') (LP_cases_14 N (FS_ N d') M') a' u) _
        have h176 : ∀ (q : Nat) (w : CSt) (x : RSt) (e2 : E5) (c2 : R5), tyF v0 q = 125 → q < n → CE v0 w q l e2 → RE u0 x q (o + 1) l c2 → e2.1 = 0 → jx (B_X3_cases_176 N (FMS_ N d) a w) (B_cases_151 N (FS_ N d') a' x) (SJq v0 u0 n (q + 1) o l) := by
          intro q w x e2 c2 tq hq hw hx h02
          unfold B_X3_cases_176 B_cases_151
          refine k2_next hV.1 hw hq (fun w2 g2 => pq_ok (fun _ => k2_land g2 (fun w3 g3 => pq_some ?_)))
          exact y_ends hV.2.1 (t := 125) (by decide +kernel) hx hq tq (by omega) (fun x2 r2 => y_leadAll r2 (fun x3 r3 => pp_some (Or.inr ⟨_, rfl, e2, c2, g3, r3, h02, hq⟩)))
        have fin : jx (B_X3_cases_140 N (FMS_ N d) p a v) (B_cases_14 N (FS_ N d') (LP_cases_14 N (FS_ N d') M') a' u) (SJq v0 u0 n j o l) := by
          unfold B_X3_cases_140 B_cases_14
          refine pq_ok (fun _ => k2_step h (fun _ w1 g1 => ?_))
          refine jx_r (y_if hV.2.1 (t := 23) (by decide +kernel) h' hi (fun y => absurd y z) (fun _ => y_emit h' (fun _ x1 r1 => ?_)))
          rcases oF_r hD with ⟨y, q⟩ | ⟨y, q⟩
          · have hil := hV.lt hi (by rw [y]; exact nEnd (by decide) (by decide) (by decide))
            obtain ⟨k1, p1, p2⟩ := oS_r (show oS B (oT (tyF v0) 125) (i + 1) (.inr j) from q)
            obtain ⟨t2, rfl⟩ := oT_r p2
            refine y_has hV.2.1 (t := 24) (by decide +kernel) (nEnd (by decide) (by decide) (by decide)) r1 hi (fun _ _ x2 r2 => ?_) (fun x => absurd y x)
            rw [if_neg (by decide)]
            refine jx_l (k2_if g1 (fun _ => k2_next hV.1 g1 hil (fun w2 g2 => ?_)) (fun x => absurd y x))
            refine jx_bt (hB d d' (i + 1) k1 w2 x2 e c p1 hil g2 r2 h0) ?_ (fun _ _ => by repeat' (first | exact KP_some kp_rf | with_reducible refine KP_bn ?_ (fun _ _ => ?_) | with_reducible refine KP_if ?_ ?_ | with_reducible refine KP_rd (fun _ => ?_) | with_reducible refine KP_zr ?_ | (with_reducible refine KP_pu2 ?_ ?_; first | exact ks_sI (by decide) kp_rf | exact ks_sL kp_rf | exact ks_sA (by decide) kp_rf | exact ks_sB (by decide) kp_rf) | (with_reducible refine KP_wr2 ?_ ?_; first | exact ks_sA (by decide) kp_rf | exact ks_sB (by decide) kp_rf) | with_reducible exact h_ro _ _ _ _ | with_reducible exact sk_F_is | with_reducible exact sk_F_take | with_reducible exact sk_F_emit | with_reducible exact sk_F_wrong | with_reducible exact sk_F_cost | with_reducible exact sk_F_stuck | with_reducible exact sk_F_ends | with_reducible exact sk_F_begins | with_reducible exact sk_F_opens | with_reducible exact sk_F_has | with_reducible exact sk_F_isNumber | with_reducible exact sk_F_isNext | with_reducible exact sk_F_push | with_reducible exact sk_F_lead | with_reducible exact sk_F_here | with_reducible exact sk_F_kind | with_reducible exact sk_F_isKind | with_reducible exact sk_F_own | with_reducible exact sk_F_constant | with_reducible exact sk_F_bounded | with_reducible exact sk_F_joined | with_reducible exact sk_F_strength | with_reducible exact sk_F_leadAll | with_reducible exact sk_F_loop | with_reducible exact sk_F_label | with_reducible exact sk_F_leaves | with_reducible exact sk_F_telling | with_reducible exact sk_F_local | with_reducible exact sk_F_addSlot | with_reducible exact sk_F_addVariable | with_reducible exact sk_F_isTooWide | with_reducible exact sk_F_named | with_reducible exact sk_F_slotOf | with_reducible exact sk_F_bad | with_reducible exact sk_G_expression | with_reducible exact sk_G_spot | with_reducible exact sk_G_body | with_reducible exact sk_G_stat | (with_reducible refine sk_B_cases_103 ?_ ?_ <;> assumption) | (with_reducible refine sk_B_cases_65 ?_ ?_ ?_ <;> assumption) | (with_reducible refine sk_LP_cases_65 ?_ ?_ _ _ <;> assumption) | (with_reducible refine sk_B_cases_28 ?_ ?_ ?_ <;> assumption) | (with_reducible refine sk_LP_cases_28 ?_ ?_ _ _ <;> assumption) | (with_reducible refine sk_B_cases_151 ?_ <;> assumption) | (with_reducible refine sk_B_cases_14 ?_ ?_ <;> assumption) | (with_reducible refine sk_LP_cases_14 ?_ _ _ <;> assumption) | (with_reducible refine sk_B_cases_0 ?_ <;> assumption) | (with_reducible refine sk_F_cases ?_ <;> assumption)))
            rintro b3 w3 q3 x3 ⟨e3, c3, g3, r3, h03, hk1⟩
            have hkl := hV.lt hk1 (by rw [t2]; exact nEnd (by decide) (by decide) (by decide))
            exact h176 k1 w3 x3 e3 c3 t2 hkl g3 r3 h03
          · obtain ⟨t2, rfl⟩ := oT_r q
            have hil := hV.lt hi (by rw [t2]; exact nEnd (by decide) (by decide) (by decide))
            refine y_has hV.2.1 (t := 24) (by decide +kernel) (nEnd (by decide) (by decide) (by decide)) r1 hi (fun x => absurd x y) (fun _ => ?_)
            rw [if_pos rfl]
            exact jx_l (k2_if g1 (fun x => absurd x y) (fun _ => h176 i w1 x1 e c t2 hil g1 r1 h0))
        unfold B_X3_cases_26
        exact pq_if (fun _ => fin) (fun _ => k2_if h (fun y => absurd y z) (fun _ => fin))
  | succ q ih =>
    rintro i j v u e c M M' k a a' ⟨z, hD⟩ hi hki h h' h0
    have z : tyF v0 i = 23 := z
    obtain ⟨k9, p0, p9⟩ := oS_r hD
    obtain ⟨k1, p1, q2, p2⟩ := oS_r (show oS (dLab (tyF v0)) (dLl (tyF v0) B) (i + 1) (.inr k9) from p0)
    have hil := hV.lt hi (by rw [z]; exact nEnd (by decide) (by decide) (by decide))
    have ki := ofN_i (k := k) (by omega)
    have hgt := pg_Lab _ _ p1
    have hgt2 := (pl_W (pg_N pg_Lab.le).le hPg.le) _ _ (show oW (fun i => tyF v0 i = 44) (oN (dLab (tyF v0))) B k1 (.inr k9) from ⟨q2, p2⟩)
    cases M with
    | zero => exact jx_n1 rfl
    | succ M =>
      cases M' with
      | zero => exact jx_n2 rfl
      | succ M' =>
        show jx (B_X3_cases_26 N (FMS_ N d) (LP_X3_cases_26 N (FMS_ N d) M) p a (Int32.ofNat k) v) (B_cases_14 N (FS_ N d') (LP_cases_14 N (FS_ N d') M') a' u) _
        have h14 : ∀ a, KP (LP_cases_14 N (FS_ N d') M' a) a.2 := sk_LP_cases_14 h_ro M'
        unfold B_X3_cases_26 B_cases_14
        rw [if_neg (fun y => by have := Int32.le_iff_toInt_le.mp y; rw [e15] at this; omega)]
        refine k2_if h (fun _ => pq_ok (fun _ => ?_)) (fun y => absurd z y)
        refine jx_r (y_if hV.2.1 (t := 23) (by decide +kernel) h' hi (fun _ => y_here (fun r2 => jx_l ?_)) (fun y => absurd z y))
        unfold F_X3_labels B_X3_labels_0
        have rest : ∀ (a0 : Int32) i2 w x c2 l2' l4', B i2 (.inr k9) → i2 ≤ n → CE v0 w i2 l e → RE u0 x i2 (o + 1) l c2 → jx (ok (cR w 2 < 2) inferInstance <| bc (F_X6_step N (cR w 2) 36 (pI v (cR v 2) 14) ((pI w (cR w 2) 14) - (pI v (cR v 2) 14)) p w) fun r_22 u_21 => ok (cR u_21 2 < 2) inferInstance <| bc (F_X6_step N (cR u_21 2) 30 (-1) 0 p u_21) fun r_25 u_24 => ok (cR u_24 2 < 2) inferInstance <| bc (F_X6_step N (cR u_24 2) 16 0 0 p u_24) fun r_28 u_27 => bt (FMS_ N d 0 0 0 0 u_27) fun _ u_29 => ok (cR u_29 2 < 2) inferInstance <| bc (F_X6_step N (cR u_29 2) 30 a 0 p u_29) fun r_33 u_32 => ok (cR u_32 2 < 2) inferInstance <| bc (F_X6_land N (cR u_32 2) r_25 u_32) fun _ u_35 => LP_X3_cases_26 N (FMS_ N d) M (p, r_33, (Int32.ofNat k + 1), u_35)) (B_cases_103 N (FS_ N d') (LP_cases_14 N (FS_ N d') M') l2' l4' x) (SJq v0 u0 n j o l) := by
          intro a0 i2 w x c2 l2' l4' hb hi2 hw hx
          unfold B_cases_103
          refine pq_ok (fun _ => k2_step hw (fun _ w1 g1 => pq_ok (fun _ => k2_step g1 (fun a1 w2 g2 => pq_ok (fun _ => k2_step g2 (fun _ w3 g3 => ?_))))))
          refine jx_bt (hB d d' i2 k9 w3 x e c2 hb hi2 g3 hx h0) ?_ (fun _ _ => by have h_R_14 := h14; repeat' (first | exact KP_some kp_rf | with_reducible refine KP_bn ?_ (fun _ _ => ?_) | with_reducible refine KP_if ?_ ?_ | with_reducible refine KP_rd (fun _ => ?_) | with_reducible refine KP_zr ?_ | (with_reducible refine KP_pu2 ?_ ?_; first | exact ks_sI (by decide) kp_rf | exact ks_sL kp_rf | exact ks_sA (by decide) kp_rf | exact ks_sB (by decide) kp_rf) | (with_reducible refine KP_wr2 ?_ ?_; first | exact ks_sA (by decide) kp_rf | exact ks_sB (by decide) kp_rf) | with_reducible exact h_ro _ _ _ _ | with_reducible exact sk_F_is | with_reducible exact sk_F_take | with_reducible exact sk_F_emit | with_reducible exact sk_F_wrong | with_reducible exact sk_F_cost | with_reducible exact sk_F_stuck | with_reducible exact sk_F_ends | with_reducible exact sk_F_begins | with_reducible exact sk_F_opens | with_reducible exact sk_F_has | with_reducible exact sk_F_isNumber | with_reducible exact sk_F_isNext | with_reducible exact sk_F_push | with_reducible exact sk_F_lead | with_reducible exact sk_F_here | with_reducible exact sk_F_kind | with_reducible exact sk_F_isKind | with_reducible exact sk_F_own | with_reducible exact sk_F_constant | with_reducible exact sk_F_bounded | with_reducible exact sk_F_joined | with_reducible exact sk_F_strength | with_reducible exact sk_F_leadAll | with_reducible exact sk_F_loop | with_reducible exact sk_F_label | with_reducible exact sk_F_leaves | with_reducible exact sk_F_telling | with_reducible exact sk_F_local | with_reducible exact sk_F_addSlot | with_reducible exact sk_F_addVariable | with_reducible exact sk_F_isTooWide | with_reducible exact sk_F_named | with_reducible exact sk_F_slotOf | with_reducible exact sk_F_bad | with_reducible exact sk_G_expression | with_reducible exact sk_G_spot | with_reducible exact sk_G_body | with_reducible exact sk_G_stat | (with_reducible refine sk_B_cases_103 ?_ ?_ <;> assumption) | (with_reducible refine sk_B_cases_65 ?_ ?_ ?_ <;> assumption) | (with_reducible refine sk_LP_cases_65 ?_ ?_ _ _ <;> assumption) | (with_reducible refine sk_B_cases_28 ?_ ?_ ?_ <;> assumption) | (with_reducible refine sk_LP_cases_28 ?_ ?_ _ _ <;> assumption) | (with_reducible refine sk_B_cases_151 ?_ <;> assumption) | (with_reducible refine sk_B_cases_14 ?_ ?_ <;> assumption) | (with_reducible refine sk_LP_cases_14 ?_ _ _ <;> assumption) | (with_reducible refine sk_B_cases_0 ?_ <;> assumption) | (with_reducible refine sk_F_cases ?_ <;> assumption)))
          rintro b4 w4 q4 x4 ⟨e4, c4, g4, r4, h04, hk9⟩
          refine pq_ok (fun _ => k2_step g4 (fun a5 w5 g5 => pq_ok (fun _ => k2_land g5 (fun w6 g6 => ?_))))
          refine jx_r (y_emit r4 (fun a7 x7 r7 => y_lead r7 (fun x8 r8 => jx_l ?_)))
          rw [ofN1 (by omega)]
          exact ih k9 j w6 x8 e4 c4 M M' (k + 1) _ _ p9 hk9 (by omega) g6 r8 h04
        have main : ∀ M1 M2, jx (bt (LP_X3_labels_2 N M1 (0, v)) fun _ u_18 => ok (cR u_18 2 < 2) inferInstance <| bc (F_X6_step N (cR u_18 2) 36 (pI v (cR v 2) 14) ((pI u_18 (cR u_18 2) 14) - (pI v (cR v 2) 14)) p u_18) fun r_22 u_21 => ok (cR u_21 2 < 2) inferInstance <| bc (F_X6_step N (cR u_21 2) 30 (-1) 0 p u_21) fun r_25 u_24 => ok (cR u_24 2 < 2) inferInstance <| bc (F_X6_step N (cR u_24 2) 16 0 0 p u_24) fun r_28 u_27 => bt (FMS_ N d 0 0 0 0 u_27) fun _ u_29 => ok (cR u_29 2 < 2) inferInstance <| bc (F_X6_step N (cR u_29 2) 30 a 0 p u_29) fun r_33 u_32 => ok (cR u_32 2 < 2) inferInstance <| bc (F_X6_land N (cR u_32 2) r_25 u_32) fun _ u_35 => LP_X3_cases_26 N (FMS_ N d) M (p, r_33, (Int32.ofNat k + 1), u_35)) (LP_cases_28 N (FS_ N d') (LP_cases_14 N (FS_ N d') M') M2 (a', r2, u)) (SJq v0 u0 n j o l) := by
          intro M1 M2
          cases M1 with
          | zero => exact jx_n1 rfl
          | succ M1 =>
            cases M2 with
            | zero => exact jx_n2 rfl
            | succ M2 =>
              show jx (bt (B_X3_labels_2 N (LP_X3_labels_2 N M1) (Int32.ofNat 0) v) _) (B_cases_28 N (FS_ N d') (LP_cases_14 N (FS_ N d') M') (LP_cases_28 N (FS_ N d') (LP_cases_14 N (FS_ N d') M') M2) a' r2 u) _
              refine j_lab1 hV h14 (by omega) (by rw [z]; decide) p1 hil h h' ?_
              intro w2 x2 c2 g2 rr2 hk1
              exact j_labels hV h14 hB123 q2 k1 (0 + 1) w2 x2 e c2 M1 M2 _ _ p2 hk1 (by omega) g2 rr2 (fun i2 w x c2 l2' l4' b1 b2 b3 b4 => rest 0 i2 w x c2 l2' l4' b1 b2 b3 b4)
        exact main N N
theorem j_cases (hV : EV2 v0 u0 n) (ho : b → o < 24) (hE : HE2 N v0 u0 n o l E) (hB : o < 24 → HB2 N v0 u0 n (o + 1) l B) (hPg : Pg B) (hB123 : ∀ i j, B i (.inr j) → tyF v0 i = 123) (hD : dCas (tyF v0) b E B i (.inr j)) (hi : i < n) (h : CE v0 v i l e) (h' : RE u0 u (i + 1) o l c) (h0 : e.1 = 0) : jx (FMS_ N d 7 0 p 0 v) (FS_ N d' 5 0 0 u) (SJq v0 u0 n j o l) := by
  obtain ⟨k1, p1, p2⟩ := oS_r (show oS E (oS (oP (tyF v0) b 123) (dCl (tyF v0) B)) (i + 1) (.inr j) from hD)
  obtain ⟨k2, p3, q, p4⟩ := oS_r p2
  obtain ⟨t1, pb, rfl⟩ := oP_r p3
  cases d with
  | zero => exact jx_n1 rfl
  | succ d =>
    cases d' with
    | zero => exact jx_n2 rfl
    | succ d' =>
      have h_ro : ∀ q a b u, KP (FS_ N d' q a b u) u := sk_FS_ d'
      show jx (F_X3_cases N (FMS_ N d) p v) (F_cases N (FS_ N d') u) _
      unfold F_X3_cases B_X3_cases_0 F_cases B_cases_0
      refine k2_next hV.1 h hi (fun w1 g1 => ?_)
      refine jx_bt (hE (i + 1) k1 w1 u e c p1 hi g1 h' h0) ?_ (fun _ _ => by repeat' (first | exact KP_some kp_rf | with_reducible refine KP_bn ?_ (fun _ _ => ?_) | with_reducible refine KP_if ?_ ?_ | with_reducible refine KP_rd (fun _ => ?_) | with_reducible refine KP_zr ?_ | (with_reducible refine KP_pu2 ?_ ?_; first | exact ks_sI (by decide) kp_rf | exact ks_sL kp_rf | exact ks_sA (by decide) kp_rf | exact ks_sB (by decide) kp_rf) | (with_reducible refine KP_wr2 ?_ ?_; first | exact ks_sA (by decide) kp_rf | exact ks_sB (by decide) kp_rf) | with_reducible exact h_ro _ _ _ _ | with_reducible exact sk_F_is | with_reducible exact sk_F_take | with_reducible exact sk_F_emit | with_reducible exact sk_F_wrong | with_reducible exact sk_F_cost | with_reducible exact sk_F_stuck | with_reducible exact sk_F_ends | with_reducible exact sk_F_begins | with_reducible exact sk_F_opens | with_reducible exact sk_F_has | with_reducible exact sk_F_isNumber | with_reducible exact sk_F_isNext | with_reducible exact sk_F_push | with_reducible exact sk_F_lead | with_reducible exact sk_F_here | with_reducible exact sk_F_kind | with_reducible exact sk_F_isKind | with_reducible exact sk_F_own | with_reducible exact sk_F_constant | with_reducible exact sk_F_bounded | with_reducible exact sk_F_joined | with_reducible exact sk_F_strength | with_reducible exact sk_F_leadAll | with_reducible exact sk_F_loop | with_reducible exact sk_F_label | with_reducible exact sk_F_leaves | with_reducible exact sk_F_telling | with_reducible exact sk_F_local | with_reducible exact sk_F_addSlot | with_reducible exact sk_F_addVariable | with_reducible exact sk_F_isTooWide | with_reducible exact sk_F_named | with_reducible exact sk_F_slotOf | with_reducible exact sk_F_bad | with_reducible exact sk_G_expression | with_reducible exact sk_G_spot | with_reducible exact sk_G_body | with_reducible exact sk_G_stat | (with_reducible refine sk_B_cases_103 ?_ ?_ <;> assumption) | (with_reducible refine sk_B_cases_65 ?_ ?_ ?_ <;> assumption) | (with_reducible refine sk_LP_cases_65 ?_ ?_ _ _ <;> assumption) | (with_reducible refine sk_B_cases_28 ?_ ?_ ?_ <;> assumption) | (with_reducible refine sk_LP_cases_28 ?_ ?_ _ _ <;> assumption) | (with_reducible refine sk_B_cases_151 ?_ <;> assumption) | (with_reducible refine sk_B_cases_14 ?_ ?_ <;> assumption) | (with_reducible refine sk_LP_cases_14 ?_ _ _ <;> assumption) | (with_reducible refine sk_B_cases_0 ?_ <;> assumption) | (with_reducible refine sk_F_cases ?_ <;> assumption)))
      rintro b2 w2 q2 x2 ⟨⟨rfl, kd, e2, c2, g2, r2, s2, n2⟩, hk1⟩
      have hkl := hV.lt hk1 (by rw [t1]; exact nEnd (by decide) (by decide) (by decide))
      refine k2_next hV.1 g2 hkl (fun w3 g3 => ?_)
      refine jx_r (y_begins hV.2.1 (t := 123) (by decide +kernel) r2 hkl t1 (ho pb) (fun x3 r3 => jx_l ?_))
      exact j_casesT hV (ho pb) (hB (ho pb)) hPg hB123 q (k1 + 1) j w3 x3 e2 c2 N N 0 _ _ p4 hkl (by omega) g3 r3 (sfe_0 s2 h0)
theorem st_ne {ty : Nat → Int32} (hD : dStat ty b E X B B' i (.inr j)) : ¬ isEnd (ty i) := by
  have f : ∀ {t : Int32}, ty i = t → ¬ t = 0 → ¬ t = 131 → ¬ t = 132 → ¬ isEnd (ty i) := fun h a b c => by rw [h]; exact nEnd a b c
  rcases oF_r hD with ⟨z, -⟩ | ⟨-, hD⟩
  · exact f z (by decide) (by decide) (by decide)
  rcases oF_r hD with ⟨z, -⟩ | ⟨-, hD⟩
  · exact f z (by decide) (by decide) (by decide)
  rcases oF_r hD with ⟨z, -⟩ | ⟨-, hD⟩
  · exact f z (by decide) (by decide) (by decide)
  rcases oF_r hD with ⟨z, -⟩ | ⟨-, hD⟩
  · exact f z (by decide) (by decide) (by decide)
  rcases oF_r hD with ⟨z | z, -⟩ | ⟨-, hD⟩
  · exact f z (by decide) (by decide) (by decide)
  · exact f z (by decide) (by decide) (by decide)
  rcases oF_r hD with ⟨z, -⟩ | ⟨-, hD⟩
  · exact f z (by decide) (by decide) (by decide)
  rcases oF_r hD with ⟨z, -⟩ | ⟨-, hD⟩
  · exact f z (by decide) (by decide) (by decide)
  rcases oF_r hD with ⟨z, -⟩ | ⟨-, hD⟩
  · exact f z (by decide) (by decide) (by decide)
  · exact (oR_r hD).elim
def stDo (N : Nat) (ro : Nat → Int32 → Int32 → RSt → Option (Int32 × RSt)) (l1 l2 : Int32) (u_4 : RSt) : Option (Int32 × RSt) := if l2 = 116 then (bn (ro 2 0 0 u_4) fun _ u_6 => some (0, u_6)) else (if l2 = 119 then (bn (ro 3 l1 0 u_4) fun _ u_8 => some (0, u_8)) else (if l2 = 120 then (bn (ro 4 l1 0 u_4) fun _ u_10 => some (0, u_10)) else (if l2 = 121 then (bn (ro 5 0 0 u_4) fun _ u_12 => some (0, u_12)) else (if l2 = 124 then (bn (F_leaves N l2 l1 u_4) fun _ u_14 => some (0, u_14)) else (if l2 = 125 then (bn (F_leaves N l2 l1 u_4) fun _ u_16 => some (0, u_16)) else (if l2 = 126 then (bn (F_returns N l1 u_4) fun _ u_18 => some (0, u_18)) else (bn (G_expression N u_4) fun r_20 u_19 => bn (F_emit N 35 l1 0 u_19) fun r_22 u_21 => bn (F_take N 229 u_21) fun _ u_23 => some (0, u_23))))))))
theorem y_stat {ro : Nat → Int32 → Int32 → RSt → Option (Int32 × RSt)} {s : Int32} {Q : Int32 → RSt → Prop} (hV : EV2 v0 u0 n) (h' : RE u0 u i o l c) (hi : i < n) (hs : u0.2.2.1 2 i = s) (hm : s ∈ ([116, 119, 120, 121, 124, 125, 126, 127] : List Int32)) (kk : ∀ x, RE u0 x (i + 1) o l c → pp (stDo N ro (u0.2.2.1 3 i) s x) Q) : pp (F_stat N ro u) Q := by
  have hn2 := hV.2.1.2.2
  have f := (show ∀ s ∈ ([116, 119, 120, 121, 124, 125, 126, 127] : List Int32), ¬ s = 1 ∧ ¬ s < 116 ∧ ¬ 127 < s ∧ ¬ s = 117 ∧ ¬ s = 118 ∧ ¬ s = 122 ∧ ¬ s = 123 by decide) s hm
  obtain ⟨f1, f2, f3, f4, f5, f6, f7⟩ := f
  unfold F_stat B_stat_0
  refine y_rA h' (by decide) (y_rA h' (by decide) ?_)
  rw [hs, if_neg f1, if_neg f2, if_neg f3, if_neg f4, if_neg f5, if_neg f6, if_neg f7]
  unfold B_stat_61 B_stat_66
  rw [if_neg (by decide)]
  refine y_cost h' (fun x1 r1 => ?_)
  rw [if_neg f1]
  exact y_adv r1 (by omega) (fun x2 r2 => kk x2 r2)
/-- Stat -/
theorem j_stat (hV : EV2 v0 u0 n) (hO : OWj v0 u0) (hl : l ≤ 100) (ho : b → o < 24) (hX : HX2 N v0 u0 n o l X) (hPX : Pg X) (hE : HE2 N v0 u0 n o l E) (hPE : Pl (oS E B)) (hB : HB2 N v0 u0 n o l B) (hB1 : HB2 N v0 u0 n o (l + 1) B) (hB' : o < 24 → HB2 N v0 u0 n (o + 1) l B') (hPB : Pg B') (hB123 : ∀ i j, B' i (.inr j) → tyF v0 i = 123) : HS2 N v0 u0 n o l (dStat (tyF v0) b E X B B') := by
  intro d d' i j v u e c hD hi h h' h0
  have hn2 := hV.2.1.2.2
  have hil : i < n := hV.lt hi (st_ne hD)
  have hpl := hV.pl hi
  cases d with
  | zero => exact jx_n1 rfl
  | succ d =>
    cases d' with
    | zero => exact jx_n2 rfl
    | succ d' =>
      have h_ro : ∀ q a b u, KP (FS_ N d' q a b u) u := sk_FS_ d'
      show jx (F_X3_statement N (FMS_ N d) v) (F_stat N (FS_ N d') u) _
      unfold F_X3_statement B_X3_statement_0
      refine k2_here h (pq_ok (fun _ => k2_cost h (fun w1 g1 => k2_type g1 ?_)))
      have id' : ∀ {A : Int32 → CSt → Int32 → RSt → Prop} {X : Option (Sum Nat Int32 × CSt)} {Y : Option (Int32 × RSt)}, (∀ (b b2 r r2 : Int32) w x, A b w r x → A b2 w r2 x) → jx X Y A → jx (bt X fun _ u_8 => some (.inr 0, u_8)) (bn Y fun _ u_6 => some (0, u_6)) A := fun ha hx => jx_bt hx (fun b w r x hq => jx_some (ha _ _ _ _ _ _ hq)) (fun _ _ => KP_some kp_rf)
      have hA : ∀ (b b2 r r2 : Int32) w x, SJq v0 u0 n j o l b w r x → SJq v0 u0 n j o l b2 w r2 x := fun _ _ _ _ _ _ q => q
      have so : ∀ {s t : Int32}, tyF v0 i = t → (∀ p ∈ prs, (p.2 = s ↔ p.1 = t)) → u0.2.2.1 2 i = s := fun z hd => (hV.2.1.so hi hd).mpr z
      rcases oF_r hD with ⟨z, q⟩ | ⟨z17, hD⟩
      · rw [if_pos z]
        refine jx_r (y_stat (s := 116) hV h' hil (so z (by decide +kernel)) (by decide) (fun x hx => jx_l ?_))
        unfold stDo
        rw [if_pos rfl]
        exact id' hA (j_choice hV hE hB hPE q hil g1 hx h0)
      rw [if_neg z17]
      rcases oF_r hD with ⟨z, q⟩ | ⟨z20, hD⟩
      · rw [if_pos z]
        refine jx_r (y_stat (s := 119) hV h' hil (so z (by decide +kernel)) (by decide) (fun x hx => jx_l ?_))
        unfold stDo
        rw [if_neg (by decide), if_pos rfl]
        exact id' hA (j_again hV hl hE hB1 q hil g1 hx h0)
      rw [if_neg z20]
      rcases oF_r hD with ⟨z, q⟩ | ⟨z21, hD⟩
      · rw [if_pos z]
        refine jx_r (y_stat (s := 120) hV h' hil (so z (by decide +kernel)) (by decide) (fun x hx => jx_l ?_))
        unfold stDo
        rw [if_neg (by decide), if_neg (by decide), if_pos rfl]
        exact id' hA (j_counts hV hl hE hB1 q hil g1 hx h0)
      rw [if_neg z21]
      rcases oF_r hD with ⟨z, q⟩ | ⟨z22, hD⟩
      · rw [if_pos z]
        refine jx_r (y_stat (s := 121) hV h' hil (so z (by decide +kernel)) (by decide) (fun x hx => jx_l ?_))
        unfold stDo
        rw [if_neg (by decide), if_neg (by decide), if_neg (by decide), if_pos rfl]
        exact id' hA (j_cases hV ho hE hB' hPB hB123 q hil g1 hx h0)
      rw [if_neg z22]
      rcases oF_r hD with ⟨z, q⟩ | ⟨z25, hD⟩
      · obtain ⟨t1, rfl⟩ := oT_r (show oT (tyF v0) 59 (i + 1) (.inr j) from q)
        rcases z with z | z
        · rw [if_pos z]
          refine jx_r (y_stat (s := 124) hV h' hil (so z (by decide +kernel)) (by decide) (fun x hx => jx_l ?_))
          unfold stDo
          rw [if_neg (by decide), if_neg (by decide), if_neg (by decide), if_neg (by decide), if_pos rfl]
          exact id' hA (j_leave hV g1 hx hil hpl t1 h0)
        · rw [if_neg (by rw [z]; decide), if_pos z]
          refine jx_r (y_stat (s := 125) hV h' hil (so z (by decide +kernel)) (by decide) (fun x hx => jx_l ?_))
          unfold stDo
          rw [if_neg (by decide), if_neg (by decide), if_neg (by decide), if_neg (by decide), if_neg (by decide), if_pos rfl]
          exact id' hA (j_leave hV g1 hx hil hpl t1 h0)
      rw [if_neg (fun y => z25 (Or.inl y)), if_neg (fun y => z25 (Or.inr y))]
      rcases oF_r hD with ⟨z, q⟩ | ⟨z27, hD⟩
      · rw [if_pos z]
        refine jx_r (y_stat (s := 126) hV h' hil (so z (by decide +kernel)) (by decide) (fun x hx => jx_l ?_))
        unfold stDo
        rw [if_neg (by decide), if_neg (by decide), if_neg (by decide), if_neg (by decide), if_neg (by decide), if_neg (by decide), if_pos rfl]
        exact id' hA (j_returned hV hO hE g1 hx hil hpl q h0)
      rw [if_neg z27]
      rcases oF_r hD with ⟨z, q⟩ | ⟨z28, hD⟩
      · rw [if_pos z]
        obtain ⟨k1, p1, p2⟩ := oS_r (show oS E (oT (tyF v0) 59) (i + 1) (.inr j) from q)
        obtain ⟨t2, rfl⟩ := oT_r p2
        refine k2_next hV.1 g1 hil (fun w2 g2 => ?_)
        refine jx_r (y_stat (s := 127) hV h' hil (so z (by decide +kernel)) (by decide) (fun x hx => jx_l ?_))
        unfold stDo
        rw [if_neg (by decide), if_neg (by decide), if_neg (by decide), if_neg (by decide), if_neg (by decide), if_neg (by decide), if_neg (by decide)]
        refine jx_bt (hE (i + 1) k1 w2 x e c p1 hil g2 hx h0) ?_ (fun _ _ => by repeat' (first | exact KP_some kp_rf | with_reducible refine KP_bn ?_ (fun _ _ => ?_) | with_reducible refine KP_if ?_ ?_ | with_reducible refine KP_rd (fun _ => ?_) | with_reducible refine KP_zr ?_ | (with_reducible refine KP_pu2 ?_ ?_; first | exact ks_sI (by decide) kp_rf | exact ks_sL kp_rf | exact ks_sA (by decide) kp_rf | exact ks_sB (by decide) kp_rf) | (with_reducible refine KP_wr2 ?_ ?_; first | exact ks_sA (by decide) kp_rf | exact ks_sB (by decide) kp_rf) | with_reducible exact h_ro _ _ _ _ | with_reducible exact sk_F_is | with_reducible exact sk_F_take | with_reducible exact sk_F_emit | with_reducible exact sk_F_wrong | with_reducible exact sk_F_cost | with_reducible exact sk_F_stuck | with_reducible exact sk_F_ends | with_reducible exact sk_F_begins | with_reducible exact sk_F_opens | with_reducible exact sk_F_has | with_reducible exact sk_F_isNumber | with_reducible exact sk_F_isNext | with_reducible exact sk_F_push | with_reducible exact sk_F_lead | with_reducible exact sk_F_here | with_reducible exact sk_F_kind | with_reducible exact sk_F_isKind | with_reducible exact sk_F_own | with_reducible exact sk_F_constant | with_reducible exact sk_F_bounded | with_reducible exact sk_F_joined | with_reducible exact sk_F_strength | with_reducible exact sk_F_leadAll | with_reducible exact sk_F_loop | with_reducible exact sk_F_label | with_reducible exact sk_F_leaves | with_reducible exact sk_F_telling | with_reducible exact sk_F_local | with_reducible exact sk_F_addSlot | with_reducible exact sk_F_addVariable | with_reducible exact sk_F_isTooWide | with_reducible exact sk_F_named | with_reducible exact sk_F_slotOf | with_reducible exact sk_F_bad | with_reducible exact sk_G_expression | with_reducible exact sk_G_spot | with_reducible exact sk_G_body | with_reducible exact sk_G_stat | (with_reducible refine sk_B_stat_66 ?_ <;> assumption) | (with_reducible refine sk_B_stat_61 ?_ <;> assumption) | (with_reducible refine sk_B_stat_65 ?_ <;> assumption) | (with_reducible refine sk_B_stat_0 ?_ <;> assumption) | (with_reducible refine sk_F_stat ?_ <;> assumption) | with_reducible exact sk_G_stat))
        rintro b3 w3 q3 x3 ⟨⟨rfl, kd, e3, c3, g3, r3, s3, n3⟩, hk1⟩
        have hkl := hV.lt hk1 (by rw [t2]; exact nEnd (by decide) (by decide) (by decide))
        refine pq_ok (fun _ => k2_step g3 (fun _ w4 g4 => k2_next hV.1 g4 hkl (fun w5 g5 => pq_some ?_)))
        exact y_emit r3 (fun _ x4 r4 => y_take hV.2.1 (t := 59) (by decide +kernel) r4 hkl t2 (fun x5 r5 => pp_some (Or.inr ⟨_, rfl, e3, c3, g5, r5, sfe_0 s3 h0, hkl⟩)))
      rw [if_neg z28]
      rcases oF_r hD with ⟨z, q⟩ | ⟨z128, hD⟩
      · have s1 : u0.2.2.1 2 i = 1 := so z (by decide +kernel)
        have hne : ¬ isEnd (tyF v0 i) := by rw [z]; exact nEnd (by decide) (by decide) (by decide)
        refine k2_ahead (m := 1) hV.1 g1 (by decide) (by omega) ?_
        have ref : ∀ {C : Option (Sum Nat Int32 × CSt)}, (∀ x, RE u0 x i o l c → jx C (if tyF v0 (i + 1) = 40 then (bn (F_runs N x) fun _ u_28 => some (0, u_28)) else (bn (F_sets N x) fun _ u_27 => some (0, u_27))) (SJq v0 u0 n j o l)) → jx C (F_stat N (FS_ N d') u) (SJq v0 u0 n j o l) := by
          intro C hC
          refine jx_r ?_
          unfold F_stat B_stat_0
          refine y_rA h' (by decide) (y_rA h' (by decide) ?_)
          rw [s1, if_pos rfl]
          unfold B_stat_61 B_stat_66
          rw [if_neg (by decide)]
          refine y_cost h' (fun x1 r1 => ?_)
          rw [if_pos rfl]
          have hc := jx_l (hC x1 r1)
          refine y_isNext hV.2.1 (t := 40) (by decide +kernel) r1 hil hne (fun y => ?_) (fun y => ?_)
          · rw [if_pos y] at hc
            rw [if_neg (by decide)]
            exact hc
          · rw [if_neg y] at hc
            rw [if_pos rfl]
            exact hc
        have q' := oF_r (show oF (fun i => tyF v0 i = 40) (oS (dArg (tyF v0) b X) (oT (tyF v0) 59)) (oS (dIdx (tyF v0) b X) (oS (dBit (tyF v0)) (oF (fun i => isAsg (tyF v0 i)) (oN (oS E (oT (tyF v0) 59))) (oF (fun i => tyF v0 i = 11051 ∨ tyF v0 i = 11565) (oN (oT (tyF v0) 59)) oR)))) (i + 1) (.inr j) from q)
        rcases q' with ⟨y, q⟩ | ⟨y, q⟩
        · rw [if_pos y]
          refine ref (fun x hx => ?_)
          rw [if_pos y]
          exact id' hA (j_runs hV ho hX hPX q g1 hx hil z h0 hpl)
        · rw [if_neg y]
          refine ref (fun x hx => ?_)
          rw [if_neg y]
          exact id' hA (j_sets hV ho hX hE q g1 hx hil z h0)
      · exact (oR_r hD).elim
/-- all levels -/
theorem j_SB (hV : EV2 v0 u0 n) (hO : OWj v0 u0) : ∀ L o, o + L = 25 → (∀ l, l ≤ o → HS2 N v0 u0 n o l (dSt (tyF v0) L)) ∧ (∀ l, l ≤ o + 1 → HB2 N v0 u0 n o l (dBo (tyF v0) L)) := by
  intro L
  induction L with
  | zero => exact fun o _ => ⟨fun l _ d d' i j v u e c q => (oR_r q).elim, fun l _ d d' i j v u e c q => (oR_r q).elim⟩
  | succ L ih =>
    intro o hoL
    have ih' := ih (o + 1) (by omega)
    have hb : 0 < L → o < 24 := fun _ => by omega
    have pe := pg_SB (ty := tyF v0) L
    have pe1 := pg_SB (ty := tyF v0) (L + 1)
    have hne : ∀ i j, dSt (tyF v0) L i (.inr j) → ¬ isEnd (tyF v0 i) := by
      cases L with
      | zero => exact fun i j q => (oR_r q).elim
      | succ L => exact fun i j q => st_ne q
    have hB : ∀ l, l ≤ o + 1 → HB2 N v0 u0 n o l (dBody (tyF v0) (0 < L) (dSt (tyF v0) L)) := fun l hl => j_body hV hb (fun _ => ih'.1 l hl) pe.1 hne
    refine ⟨fun l hl => ?_, fun l hl => hB l hl⟩
    have hX : HX2 N v0 u0 n o l (dX (tyF v0) L) := fun _ d d' i j v u e c a1 a2 a3 a4 a5 a6 => (j_all hV L (o + 1) (by omega)).1 l d d' i j v u e c a1 a2 a3 a4 a5 (by omega)
    have hE : HE2 N v0 u0 n o l (dX (tyF v0) (L + 1)) := fun i j v u e c a1 a2 a3 a4 a5 => by
      obtain ⟨b1, b2⟩ := e0_0 a5
      exact j_E hV hoL a1 a2 a3 a4 b1 (by omega)
    refine j_stat hV hO (by omega) hb hX (pg_EO (ty := tyF v0) L).1 hE (pl_S (pg_EO (ty := tyF v0) (L + 1)).1.le pe1.2.le) (hB l (by omega)) (hB (l + 1) (by omega)) (fun _ => ih'.2 l (by omega)) pe.2 ?_
    intro i j q
    cases L with
    | zero => exact (oR_r q).elim
    | succ L =>
      obtain ⟨k1, q1, -⟩ := oS_r (show oS (oP (tyF v0) (0 < L) 123) (dSl (tyF v0) (dSt (tyF v0) L)) i (.inr j) from q)
      exact (oP_r q1).1
end St6
