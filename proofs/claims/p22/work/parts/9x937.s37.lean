/-! The second pass: settings. -/
def kS (N : Nat) (u_52 : RSt) : Option (Int32 × RSt) := rd (u_52.2.2.1 2) 1502 (u_52.1 65) fun v_53 => rd (u_52.2.2.1 3) 1502 (u_52.1 65) fun v_55 => if v_53 < (205 : Int32) then (B_sets_50 N (u_52.1 80) (u_52.1 81) v_53 v_55 u_52) else (if v_53 ≤ (212 : Int32) then (B_sets_71 N (u_52.1 80) (u_52.1 81) v_53 v_55 u_52) else (B_sets_50 N (u_52.1 80) (u_52.1 81) v_53 v_55 u_52))
theorem asg_prs : ∀ p ∈ prs, (asgB p.1 = true ∨ p.1 = 11051 ∨ p.1 = 11565) → (p.2 = 234 ∧ p.1 = 61) ∨ (p.2 = 213 ∧ p.1 = 11051) ∨ (p.2 = 214 ∧ p.1 = 11565) ∨ (asgB p.1 = true ∧ ¬ p.1 = 61 ∧ ¬ p.1 = 11051 ∧ ¬ p.1 = 11565 ∧ ¬ p.2 = 234 ∧ ¬ p.2 = 213 ∧ ¬ p.2 = 214 ∧ ((p.2 < 205 ∧ (p.2 = 200 ∨ p.2 = 201 ∨ p.2 = 202)) ∨ (¬ p.2 < 205 ∧ p.2 ≤ 212))) := by decide +kernel
theorem FE_8 {N d : Nat} {a b : Int32} {u : RSt} : FE_ N (d + 1) 8 a b u = F_spot N (FE_ N d) a u := rfl
section St2
variable {v0 v : CSt} {u0 u : RSt} {i j k o l n N m d d' t : Nat} {e : E5} {c : R5} {X E : Rl} {b : Prop} {p l1 l2 l3 l4 l8 bi : Int32}
def opK (v0 : CSt) (k : Nat) (l5 : Int32) : Prop := (l5 = 0 ∧ (tyF v0 k = 61 ∨ tyF v0 k = 11051 ∨ tyF v0 k = 11565)) ∨ (l5 = 1 ∧ ¬ tyF v0 k = 61 ∧ ¬ tyF v0 k = 11051 ∧ ¬ tyF v0 k = 11565 ∧ isAsg (tyF v0 k))
theorem y_127 {Q : Int32 → RSt → Prop} (hV : EV2 v0 u0 n) (h' : RE u0 u k o l c) (hk : k ≤ n) (ha : isAsg (tyF v0 k) ∨ tyF v0 k = 11051 ∨ tyF v0 k = 11565) (kk : ∀ l5, opK v0 k l5 → pp (B_sets_127 N c.2.2.1 c.2.2.2.1 (u0.2.2.1 2 k) (u0.2.2.1 3 k) l5 u) Q) : pp (kS N u) Q := by
  have e80 : u.1 80 = c.2.2.1 := by rw [← h'.2.2.2.2.2]; rfl
  have e81 : u.1 81 = c.2.2.2.1 := by rw [← h'.2.2.2.2.2]; rfl
  unfold kS
  refine y_rA h' (by decide) (y_rA h' (by decide) ?_)
  rw [e80, e81]
  have ha' : asgB (tyF v0 k) = true ∨ tyF v0 k = 11051 ∨ tyF v0 k = 11565 := by
    rcases ha with z | z | z
    · exact Or.inl ((asgB_iff _).mp z)
    · exact Or.inr (Or.inl z)
    · exact Or.inr (Or.inr z)
  unfold B_sets_50 B_sets_71 B_sets_76 B_sets_92 B_sets_97
  rcases asg_prs (tyF v0 k, u0.2.2.1 2 k) (hV.2.1.1 k hk) ha' with ⟨z1, z2⟩ | ⟨z1, z2⟩ | ⟨z1, z2⟩ | ⟨z0, z1, z2, z3, z4, z5, z6, z7⟩
  · have k0 := kk 0 (Or.inl ⟨rfl, Or.inl z2⟩)
    dsimp only at z1
    rw [z1] at k0 ⊢
    rw [if_neg (by decide), if_neg (by decide), if_neg (by decide), if_neg (by decide), if_neg (by decide), if_neg (by decide), if_neg (by decide), if_pos h'.2.1, if_pos rfl]
    exact k0
  · have k0 := kk 0 (Or.inl ⟨rfl, Or.inr (Or.inl z2)⟩)
    dsimp only at z1
    rw [z1] at k0 ⊢
    rw [if_neg (by decide), if_neg (by decide), if_neg (by decide), if_neg (by decide), if_neg (by decide), if_pos rfl, if_pos h'.2.1, if_neg (by decide), if_pos rfl, if_neg (by decide)]
    exact k0
  · have k0 := kk 0 (Or.inl ⟨rfl, Or.inr (Or.inr z2)⟩)
    dsimp only at z1
    rw [z1] at k0 ⊢
    rw [if_neg (by decide), if_neg (by decide), if_neg (by decide), if_neg (by decide), if_neg (by decide), if_neg (by decide), if_pos rfl, if_pos h'.2.1, if_neg (by decide), if_pos rfl, if_neg (by decide)]
    exact k0
  · have k1 := kk 1 (Or.inr ⟨rfl, z1, z2, z3, (asgB_iff _).mpr z0⟩)
    dsimp only at z4 z5 z6 z7
    have h71 : pp (if u0.2.2.1 2 k = 213 then (if u.1 67 = 0 then (if u0.2.2.1 2 k = 234 then (B_sets_127 N c.2.2.1 c.2.2.2.1 (u0.2.2.1 2 k) (u0.2.2.1 3 k) 1 u) else (if (1 : Int32) = (0 : Int32) then (if (1 : Int32) = (0 : Int32) then (bn (F_stuck N u) fun _ u_46 => B_sets_127 N c.2.2.1 c.2.2.2.1 (u0.2.2.1 2 k) (u0.2.2.1 3 k) 1 u_46) else (B_sets_127 N c.2.2.1 c.2.2.2.1 (u0.2.2.1 2 k) (u0.2.2.1 3 k) 1 u)) else (B_sets_127 N c.2.2.1 c.2.2.2.1 (u0.2.2.1 2 k) (u0.2.2.1 3 k) 1 u))) else (B_sets_127 N c.2.2.1 c.2.2.2.1 (u0.2.2.1 2 k) (u0.2.2.1 3 k) 1 u)) else (if u0.2.2.1 2 k = 214 then (if u.1 67 = 0 then (if u0.2.2.1 2 k = 234 then (B_sets_127 N c.2.2.1 c.2.2.2.1 (u0.2.2.1 2 k) (u0.2.2.1 3 k) 1 u) else (if (1 : Int32) = (0 : Int32) then (if (1 : Int32) = (0 : Int32) then (bn (F_stuck N u) fun _ u_46 => B_sets_127 N c.2.2.1 c.2.2.2.1 (u0.2.2.1 2 k) (u0.2.2.1 3 k) 1 u_46) else (B_sets_127 N c.2.2.1 c.2.2.2.1 (u0.2.2.1 2 k) (u0.2.2.1 3 k) 1 u)) else (B_sets_127 N c.2.2.1 c.2.2.2.1 (u0.2.2.1 2 k) (u0.2.2.1 3 k) 1 u))) else (B_sets_127 N c.2.2.1 c.2.2.2.1 (u0.2.2.1 2 k) (u0.2.2.1 3 k) 1 u)) else (if u.1 67 = 0 then (if u0.2.2.1 2 k = 234 then (B_sets_127 N c.2.2.1 c.2.2.2.1 (u0.2.2.1 2 k) (u0.2.2.1 3 k) 1 u) else (if (1 : Int32) = (0 : Int32) then (if (0 : Int32) = (0 : Int32) then (bn (F_stuck N u) fun _ u_46 => B_sets_127 N c.2.2.1 c.2.2.2.1 (u0.2.2.1 2 k) (u0.2.2.1 3 k) 1 u_46) else (B_sets_127 N c.2.2.1 c.2.2.2.1 (u0.2.2.1 2 k) (u0.2.2.1 3 k) 1 u)) else (B_sets_127 N c.2.2.1 c.2.2.2.1 (u0.2.2.1 2 k) (u0.2.2.1 3 k) 1 u))) else (B_sets_127 N c.2.2.1 c.2.2.2.1 (u0.2.2.1 2 k) (u0.2.2.1 3 k) 1 u)))) Q := by
      rw [if_neg z5, if_neg z6, if_pos h'.2.1, if_neg z4, if_neg (by decide)]
      exact k1
    rcases z7 with ⟨y1, y2⟩ | ⟨y1, y2⟩
    · rw [if_pos y1]
      rcases y2 with y | y | y
      · rw [if_pos y]; exact h71
      · rw [if_neg (by rw [y]; decide), if_pos y]; exact h71
      · rw [if_neg (by rw [y]; decide), if_neg (by rw [y]; decide), if_pos y]; exact h71
    · rw [if_neg y1, if_pos y2]
      exact h71
theorem y_270 {Q : Int32 → RSt → Prop} (h' : RE u0 u k o l c) (kk : ∀ x, RE u0 x k o l c → pp (B_sets_442 N x) Q) : pp (B_sets_270 N l1 l3 l4 l8 u) Q := by
  have h417 : ∀ s0 : Int32, pp (B_sets_417 N l1 l4 l8 s0 u) Q := by
    intro s0
    unfold B_sets_417
    exact y_joined h' (fun w hw => y_emit hw (fun _ w2 h2 => kk w2 h2))
  unfold B_sets_270 B_sets_323 B_sets_343
  repeat' (first | exact h417 _ | refine pp_if (fun _ => ?_) (fun _ => ?_))
theorem k2_put {α : Type} {Q : α → CSt → Prop} {kc : Int32 → CSt → Option (α × CSt)} (h : CE v0 v i l e) (kk : ∀ w, CE v0 w i l e → pq (kc 0 w) Q) : pq (bc (F_X3_put N m p v) kc) Q := by
  refine pq_bc ?_
  unfold F_X3_put B_X3_put_0
  exact pq_if (fun _ => k2_set h (fun w hw => pq_some (kk w hw))) (fun _ => pq_ok (fun _ => k2_step h (fun _ w hw => pq_some (kk w hw))))
/-- behind the operator: no bit -/
theorem j_op1 {L : Int32} (hV : EV2 v0 u0 n) (hE : HE2 N v0 u0 n o l E) (hkd : KD (mI v0 m 5)) (h80 : c.2.2.1 = mI v0 m 5) (h81 : c.2.2.2.1 = -1) (hD : oF (fun i => isAsg (tyF v0 i)) (oN (oS E (oT (tyF v0) 59))) (oF (fun i => tyF v0 i = 11051 ∨ tyF v0 i = 11565) (oN (oT (tyF v0) 59)) oR) k (.inr j)) (hk : k ≤ n) (h : CE v0 v k l e) (h' : RE u0 u k o l c) (h0 : e.1 = 0) : jx (bc (F_X9_is N 61 v) fun r_6 u_5 => if r_6 = (0 : Int32) then (bt (F_X3_change N m L u_5) fun _ u_8 => bc (F_X3_put N m L u_8) fun _ u_10 => B_X3_assignment_104 N u_10) else (bt (F_X3_setPlain N m u_5) fun _ u_11 => bc (F_X3_put N m L u_11) fun _ u_13 => B_X3_assignment_104 N u_13)) (kS N u) (SJq v0 u0 n j o l) := by
  have hn2 := hV.2.1.2.2
  have hj := hV.2.2.2.2.1
  have ha : isAsg (tyF v0 k) ∨ tyF v0 k = 11051 ∨ tyF v0 k = 11565 := by
    rcases oF_r hD with ⟨z, -⟩ | ⟨-, q⟩
    · exact Or.inl z
    · rcases oF_r q with ⟨z, -⟩ | ⟨-, q⟩
      · exact Or.inr z
      · exact (oR_r q).elim
  have hkl : k < n := by
    rcases ha with z | z | z
    · exact hV.lt hk z.ne
    · exact hV.lt hk (by rw [z]; exact nEnd (by decide) (by decide) (by decide))
    · exact hV.lt hk (by rw [z]; exact nEnd (by decide) (by decide) (by decide))
  have s234 : u0.2.2.1 2 k = 234 ↔ tyF v0 k = 61 := hV.2.1.so hk (by decide +kernel)
  have z61 : ∀ {t : Int32}, (t = 11051 ∨ t = 11565) → ¬ t = 61 := by rintro t (z | z) <;> (rw [z]; decide)
  refine jx_r (y_127 hV h' hk ha (fun l5 h5 => jx_l ?_))
  unfold B_sets_127
  rw [if_pos h81]
  unfold B_sets_144 B_sets_145
  refine jx_r (y_ok rfl ?_)
  rw [if_pos h'.2.1]
  refine y_adv h' (by omega) (fun x1 r1 => jx_l ?_)
  have h442 : ∀ x q, tyF v0 q = 59 → q < n → RE u0 x q o l c → ∀ {Q : Int32 → RSt → Prop}, (∀ z, RE u0 z (q + 1) o l c → Q 0 z) → pp (B_sets_442 N x) Q := by
    intro x q tq hq hx Q hQ
    unfold B_sets_442
    exact y_take hV.2.1 (t := 59) (by decide +kernel) hx hq tq (fun z hz => pp_some (hQ z hz))
  by_cases y : tyF v0 k = 61
  · rw [if_pos (s234.mpr y)]
    refine k2_is h (fun _ => ?_) (fun q => absurd y q)
    rw [if_neg (by decide)]
    rcases oF_r hD with ⟨-, q⟩ | ⟨q, -⟩
    · obtain ⟨k1, q1, q2⟩ := oS_r (show oS E (oT (tyF v0) 59) (k + 1) (.inr j) from q)
      obtain ⟨t2, rfl⟩ := oT_r q2
      unfold F_X3_setPlain B_X3_setPlain_0
      rw [bt_bc]
      refine k2_here h ?_
      rw [bt_bc]
      refine k2_next hV.1 h hkl (fun w1 g1 => ?_)
      rw [bt_as]
      refine jx_bt (hE (k + 1) k1 w1 x1 e c q1 hkl g1 r1 h0) ?_ (fun _ _ => by repeat' (first | exact KP_some kp_rf | with_reducible refine KP_bn ?_ (fun _ _ => ?_) | with_reducible refine KP_if ?_ ?_ | with_reducible refine KP_rd (fun _ => ?_) | with_reducible refine KP_zr ?_ | (with_reducible refine KP_pu2 ?_ ?_; first | exact ks_sI (by decide) kp_rf | exact ks_sL kp_rf | exact ks_sA (by decide) kp_rf | exact ks_sB (by decide) kp_rf) | (with_reducible refine KP_wr2 ?_ ?_; first | exact ks_sA (by decide) kp_rf | exact ks_sB (by decide) kp_rf) | with_reducible exact h_ro _ _ _ _ | with_reducible exact sk_F_is | with_reducible exact sk_F_take | with_reducible exact sk_F_emit | with_reducible exact sk_F_wrong | with_reducible exact sk_F_cost | with_reducible exact sk_F_stuck | with_reducible exact sk_F_ends | with_reducible exact sk_F_begins | with_reducible exact sk_F_opens | with_reducible exact sk_F_has | with_reducible exact sk_F_isNumber | with_reducible exact sk_F_isNext | with_reducible exact sk_F_push | with_reducible exact sk_F_lead | with_reducible exact sk_F_here | with_reducible exact sk_F_kind | with_reducible exact sk_F_isKind | with_reducible exact sk_F_own | with_reducible exact sk_F_constant | with_reducible exact sk_F_bounded | with_reducible exact sk_F_joined | with_reducible exact sk_F_strength | with_reducible exact sk_F_leadAll | with_reducible exact sk_F_loop | with_reducible exact sk_F_label | with_reducible exact sk_F_leaves | with_reducible exact sk_F_telling | with_reducible exact sk_F_local | with_reducible exact sk_F_addSlot | with_reducible exact sk_F_addVariable | with_reducible exact sk_F_isTooWide | with_reducible exact sk_F_named | with_reducible exact sk_F_slotOf | with_reducible exact sk_F_bad | with_reducible exact sk_G_expression | with_reducible exact sk_G_spot | with_reducible exact sk_G_body | with_reducible exact sk_G_stat | with_reducible exact sk_B_sets_442 | with_reducible exact sk_B_sets_233 | with_reducible exact sk_B_sets_203 | with_reducible exact sk_B_sets_202 | with_reducible exact sk_B_sets_417 | with_reducible exact sk_B_sets_323 | with_reducible exact sk_B_sets_343 | with_reducible exact sk_B_sets_270 | with_reducible exact sk_B_sets_145 | with_reducible exact sk_B_sets_144 | with_reducible exact sk_B_sets_127 | with_reducible exact sk_B_sets_97 | with_reducible exact sk_B_sets_92 | with_reducible exact sk_B_sets_76 | with_reducible exact sk_B_sets_71 | with_reducible exact sk_B_sets_50 | with_reducible exact sk_B_sets_0 | with_reducible exact sk_F_sets))
      rintro b2 w2 q2 x2 ⟨⟨rfl, kd, e2, c2, g2, r2, s2, n2⟩, hk1⟩
      have hk1l : k1 < n := hV.lt hk1 (by rw [t2]; exact nEnd (by decide) (by decide) (by decide))
      obtain ⟨rr, hb01, tC, tR⟩ := tw_same (N := N) kd hkd g2 r2 n2
      rw [if_pos h81, h80, bt_bc]
      refine jx_r (tR (jx_l ?_))
      rw [g2.nm]
      refine tC ?_
      rcases hb01 with hr | hr
      · subst hr
        rw [if_pos rfl, if_pos rfl]
        refine pq_bt (pq_some ⟨(fun _ h9 => (nomatch h9)), fun b9 hb9 => ?_⟩)
        cases hb9
        refine k2_put g2 (fun w3 g3 => ?_)
        unfold B_X3_assignment_104 B_sets_202 B_sets_203
        refine k2_next hV.1 g3 hk1l (fun w4 g4 => pq_some ?_)
        refine y_ok rfl ?_
        rw [if_pos h81]
        refine y_emit r2 (fun _ x3 r3 => ?_)
        unfold B_sets_233 B_sets_442
        exact y_take hV.2.1 (t := 59) (by decide +kernel) r3 hk1l t2 (fun x4 r4 => pp_some (Or.inr ⟨_, rfl, e2, c2, g4, r4, sfe_0 s2 h0, hk1l⟩))
      · subst hr
        rw [if_neg (by decide), if_neg (by decide), hV.pl hk, bt_as]
        refine jx_ref ?_
        unfold B_sets_203
        exact y_bad hj r2 (by decide) (by decide) (fun _ _ => by repeat' (first | exact KP_some kp_rf | with_reducible refine KP_bn ?_ (fun _ _ => ?_) | with_reducible refine KP_if ?_ ?_ | with_reducible refine KP_rd (fun _ => ?_) | with_reducible refine KP_zr ?_ | (with_reducible refine KP_pu2 ?_ ?_; first | exact ks_sI (by decide) kp_rf | exact ks_sL kp_rf | exact ks_sA (by decide) kp_rf | exact ks_sB (by decide) kp_rf) | (with_reducible refine KP_wr2 ?_ ?_; first | exact ks_sA (by decide) kp_rf | exact ks_sB (by decide) kp_rf) | with_reducible exact h_ro _ _ _ _ | with_reducible exact sk_F_is | with_reducible exact sk_F_take | with_reducible exact sk_F_emit | with_reducible exact sk_F_wrong | with_reducible exact sk_F_cost | with_reducible exact sk_F_stuck | with_reducible exact sk_F_ends | with_reducible exact sk_F_begins | with_reducible exact sk_F_opens | with_reducible exact sk_F_has | with_reducible exact sk_F_isNumber | with_reducible exact sk_F_isNext | with_reducible exact sk_F_push | with_reducible exact sk_F_lead | with_reducible exact sk_F_here | with_reducible exact sk_F_kind | with_reducible exact sk_F_isKind | with_reducible exact sk_F_own | with_reducible exact sk_F_constant | with_reducible exact sk_F_bounded | with_reducible exact sk_F_joined | with_reducible exact sk_F_strength | with_reducible exact sk_F_leadAll | with_reducible exact sk_F_loop | with_reducible exact sk_F_label | with_reducible exact sk_F_leaves | with_reducible exact sk_F_telling | with_reducible exact sk_F_local | with_reducible exact sk_F_addSlot | with_reducible exact sk_F_addVariable | with_reducible exact sk_F_isTooWide | with_reducible exact sk_F_named | with_reducible exact sk_F_slotOf | with_reducible exact sk_F_bad | with_reducible exact sk_G_expression | with_reducible exact sk_G_spot | with_reducible exact sk_G_body | with_reducible exact sk_G_stat | with_reducible exact sk_B_sets_442 | with_reducible exact sk_B_sets_233 | with_reducible exact sk_B_sets_203 | with_reducible exact sk_B_sets_202 | with_reducible exact sk_B_sets_417 | with_reducible exact sk_B_sets_323 | with_reducible exact sk_B_sets_343 | with_reducible exact sk_B_sets_270 | with_reducible exact sk_B_sets_145 | with_reducible exact sk_B_sets_144 | with_reducible exact sk_B_sets_127 | with_reducible exact sk_B_sets_97 | with_reducible exact sk_B_sets_92 | with_reducible exact sk_B_sets_76 | with_reducible exact sk_B_sets_71 | with_reducible exact sk_B_sets_50 | with_reducible exact sk_B_sets_0 | with_reducible exact sk_F_sets))
    · exact absurd (Or.inl y) q
  · rw [if_neg (fun q => y (s234.mp q))]
    refine k2_is h (fun q => absurd q y) (fun _ => ?_)
    rw [if_pos rfl]
    have toC : ∀ {Q : Sum Nat Int32 → CSt → Prop} {kC : Int32 → CSt → Option (Sum Nat Int32 × CSt)}, (∀ w, CE v0 w k l e → pq (bt (B_X3_change_50 N m (tyF v0 k) (cA v0 204 k) w) kC) Q) → pq (bt (F_X3_change N m L v) kC) Q := by
      intro Q kC hQ
      unfold F_X3_change B_X3_change_0
      rw [bt_bc]
      refine k2_type h ?_
      rw [bt_bc]
      refine k2_here h ?_
      by_cases z : mI v m 8 = 0
      · rw [if_pos z, bt_bc]
        exact k2_get h (fun w hw => hQ w hw)
      · rw [if_neg z, bt_okj]
        refine pq_ok (fun _ => ?_)
        rw [bt_bc]
        exact k2_step h (fun _ w hw => hQ w hw)
    refine toC (fun w1 g1 => ?_)
    unfold B_X3_change_50
    rw [bt_bc]
    refine k2_next hV.1 g1 hkl (fun w2 g2 => ?_)
    have pp104 : ∀ (w : CSt) (x : RSt) (q : Nat) (e2 : E5) (c2 : R5), tyF v0 q = 59 → q < n → CE v0 w q l e2 → RE u0 x q o l c2 → e2.1 = 0 → jx (bc (F_X3_put N m L w) fun _ u_10 => B_X3_assignment_104 N u_10) (B_sets_442 N x) (SJq v0 u0 n (q + 1) o l) := by
      intro w x q e2 c2 tq hq hw hx h00
      refine k2_put hw (fun w3 g3 => ?_)
      unfold B_X3_assignment_104 B_sets_442
      refine k2_next hV.1 g3 hq (fun w4 g4 => pq_some ?_)
      exact y_take hV.2.1 (t := 59) (by decide +kernel) hx hq tq (fun x4 r4 => pp_some (Or.inr ⟨_, rfl, e2, c2, g4, r4, h00, hq⟩))
    refine jx_r (y_emit r1 (fun _ x2 r2 => jx_l ?_))
    have inc' : (tyF v0 k = 11051 ∨ tyF v0 k = 11565) → jx (bt (B_X3_change_71 N m (tyF v0 k) (cA v0 204 k) w2) fun _ u_8 => bc (F_X3_put N m L u_8) fun _ u_10 => B_X3_assignment_104 N u_10) (if l5 = 0 then (bn (F_push N 1 x2) fun _ u_31 => B_sets_270 N c.2.2.1 (u0.2.2.1 2 k) (u0.2.2.1 3 k) 3 u_31) else (bn (G_expression N x2) fun r_33 u_32 => B_sets_270 N c.2.2.1 (u0.2.2.1 2 k) (u0.2.2.1 3 k) r_33 u_32)) (SJq v0 u0 n j o l) := by
      intro z
      have hl5 : l5 = 0 := by
        rcases h5 with ⟨q, -⟩ | ⟨-, -, q1, q2, -⟩
        · exact q
        · rcases z with z | z
          · exact absurd z q1
          · exact absurd z q2
      have nA : ¬ isAsg (tyF v0 k) := by
        intro q
        have := (asgB_iff _).mp q
        rcases z with z | z <;> (rw [z] at this; exact absurd this (by decide +kernel))
      rw [if_pos hl5]
      rcases oF_r hD with ⟨q, -⟩ | ⟨-, q⟩
      · exact absurd q nA
      · rcases oF_r q with ⟨-, q⟩ | ⟨q, -⟩
        · obtain ⟨t2, rfl⟩ := oT_r (show oT (tyF v0) 59 (k + 1) (.inr j) from q)
          have hk1l : k + 1 < n := hV.lt (i := k + 1) hkl (by rw [t2]; exact nEnd (by decide) (by decide) (by decide))
          refine jx_r (y_push r2 (fun x3 r3 => y_270 r3 (fun x4 r4 => jx_l ?_)))
          have h98 : ∀ (s1 : Int32) w, CE v0 w (k + 1) l e → jx (bt (B_X3_change_98 N m (cA v0 204 k) s1 w) fun _ u_8 => bc (F_X3_put N m L u_8) fun _ u_10 => B_X3_assignment_104 N u_10) (B_sets_442 N x4) (SJq v0 u0 n (k + 1 + 1) o l) := by
            intro s1 w hw
            unfold B_X3_change_98
            rw [bt_bc]
            refine k2_combine hw (fun w5 g5 => ?_)
            exact pp104 w5 x4 (k + 1) e c t2 hk1l g5 r4 h0
          unfold B_X3_change_71
          rw [bt_okj]
          refine pq_ok (fun _ => ?_)
          rw [bt_bc]
          refine k2_const g2 (fun w4 g4 => ?_)
          by_cases y1 : tyF v0 k = 11051
          · rw [if_pos y1]; exact h98 _ w4 g4
          · rw [if_neg y1]; exact h98 _ w4 g4
        · exact absurd z q
    by_cases y1 : tyF v0 k = 11051
    · rw [if_pos y1]
      exact inc' (Or.inl y1)
    · rw [if_neg y1]
      by_cases y2 : tyF v0 k = 11565
      · rw [if_pos y2]
        exact inc' (Or.inr y2)
      · rw [if_neg y2]
        have hl5 : l5 = 1 ∧ isAsg (tyF v0 k) := by
          rcases h5 with ⟨-, q⟩ | ⟨q, -, -, -, q2⟩
          · rcases q with q | q | q
            · exact absurd q y
            · exact absurd q y1
            · exact absurd q y2
          · exact ⟨q, q2⟩
        rw [if_neg (by rw [hl5.1]; decide)]
        rcases oF_r hD with ⟨-, q⟩ | ⟨q, -⟩
        · obtain ⟨k1, q1, q2⟩ := oS_r (show oS E (oT (tyF v0) 59) (k + 1) (.inr j) from q)
          obtain ⟨t2, rfl⟩ := oT_r q2
          rw [bt_as]
          refine jx_bt (hE (k + 1) k1 w2 x2 e c q1 hkl g2 r2 h0) ?_ (fun _ _ => by repeat' (first | exact KP_some kp_rf | with_reducible refine KP_bn ?_ (fun _ _ => ?_) | with_reducible refine KP_if ?_ ?_ | with_reducible refine KP_rd (fun _ => ?_) | with_reducible refine KP_zr ?_ | (with_reducible refine KP_pu2 ?_ ?_; first | exact ks_sI (by decide) kp_rf | exact ks_sL kp_rf | exact ks_sA (by decide) kp_rf | exact ks_sB (by decide) kp_rf) | (with_reducible refine KP_wr2 ?_ ?_; first | exact ks_sA (by decide) kp_rf | exact ks_sB (by decide) kp_rf) | with_reducible exact h_ro _ _ _ _ | with_reducible exact sk_F_is | with_reducible exact sk_F_take | with_reducible exact sk_F_emit | with_reducible exact sk_F_wrong | with_reducible exact sk_F_cost | with_reducible exact sk_F_stuck | with_reducible exact sk_F_ends | with_reducible exact sk_F_begins | with_reducible exact sk_F_opens | with_reducible exact sk_F_has | with_reducible exact sk_F_isNumber | with_reducible exact sk_F_isNext | with_reducible exact sk_F_push | with_reducible exact sk_F_lead | with_reducible exact sk_F_here | with_reducible exact sk_F_kind | with_reducible exact sk_F_isKind | with_reducible exact sk_F_own | with_reducible exact sk_F_constant | with_reducible exact sk_F_bounded | with_reducible exact sk_F_joined | with_reducible exact sk_F_strength | with_reducible exact sk_F_leadAll | with_reducible exact sk_F_loop | with_reducible exact sk_F_label | with_reducible exact sk_F_leaves | with_reducible exact sk_F_telling | with_reducible exact sk_F_local | with_reducible exact sk_F_addSlot | with_reducible exact sk_F_addVariable | with_reducible exact sk_F_isTooWide | with_reducible exact sk_F_named | with_reducible exact sk_F_slotOf | with_reducible exact sk_F_bad | with_reducible exact sk_G_expression | with_reducible exact sk_G_spot | with_reducible exact sk_G_body | with_reducible exact sk_G_stat | with_reducible exact sk_B_sets_442 | with_reducible exact sk_B_sets_233 | with_reducible exact sk_B_sets_203 | with_reducible exact sk_B_sets_202 | with_reducible exact sk_B_sets_417 | with_reducible exact sk_B_sets_323 | with_reducible exact sk_B_sets_343 | with_reducible exact sk_B_sets_270 | with_reducible exact sk_B_sets_145 | with_reducible exact sk_B_sets_144 | with_reducible exact sk_B_sets_127 | with_reducible exact sk_B_sets_97 | with_reducible exact sk_B_sets_92 | with_reducible exact sk_B_sets_76 | with_reducible exact sk_B_sets_71 | with_reducible exact sk_B_sets_50 | with_reducible exact sk_B_sets_0 | with_reducible exact sk_F_sets))
          rintro b3 w3 q3 x3 ⟨⟨rfl, kd, e3, c3, g3, r3, s3, n3⟩, hk1⟩
          have hk1l : k1 < n := hV.lt hk1 (by rw [t2]; exact nEnd (by decide) (by decide) (by decide))
          refine jx_r (y_270 r3 (fun x4 r4 => jx_l ?_))
          rw [bt_pb]
          refine pq_pb (fun a _ => ?_)
          rw [bt_bc]
          refine k2_combine g3 (fun w4 g4 => ?_)
          exact pp104 w4 x4 k1 e3 c3 t2 hk1l g4 r4 (sfe_0 s3 h0)
        · exact absurd hl5.2 q
/-- behind the operator: a bit -/
theorem j_opB {L : Int32} (hV : EV2 v0 u0 n) (hE : HE2 N v0 u0 n o l E) (h81 : c.2.2.2.1 = bi) (hbi : ¬ bi = -1) (hD : oF (fun i => isAsg (tyF v0 i)) (oN (oS E (oT (tyF v0) 59))) (oF (fun i => tyF v0 i = 11051 ∨ tyF v0 i = 11565) (oN (oT (tyF v0) 59)) oR) k (.inr j)) (hk : k ≤ n) (h : CE v0 v k l e) (h' : RE u0 u k o l c) (h0 : e.1 = 0) : jx (bt (F_X3_setBit N m bi L v) fun _ u_17 => B_X3_assignment_104 N u_17) (kS N u) (SJq v0 u0 n j o l) := by
  have hn2 := hV.2.1.2.2
  have hj := hV.2.2.2.2.1
  have ha : isAsg (tyF v0 k) ∨ tyF v0 k = 11051 ∨ tyF v0 k = 11565 := by
    rcases oF_r hD with ⟨z, -⟩ | ⟨-, q⟩
    · exact Or.inl z
    · rcases oF_r q with ⟨z, -⟩ | ⟨-, q⟩
      · exact Or.inr z
      · exact (oR_r q).elim
  have hkl : k < n := by
    rcases ha with z | z | z
    · exact hV.lt hk z.ne
    · exact hV.lt hk (by rw [z]; exact nEnd (by decide) (by decide) (by decide))
    · exact hV.lt hk (by rw [z]; exact nEnd (by decide) (by decide) (by decide))
  have s234 : u0.2.2.1 2 k = 234 ↔ tyF v0 k = 61 := hV.2.1.so hk (by decide +kernel)
  have n81 : ¬ c.2.2.2.1 = -1 := by rw [h81]; exact hbi
  refine jx_r (y_127 hV h' hk ha (fun l5 h5 => jx_l ?_))
  unfold F_X3_setBit B_X3_setBit_0 B_sets_127
  rw [bt_bc, if_neg n81]
  by_cases y : tyF v0 k = 61
  · rw [if_pos (s234.mpr y)]
    refine k2_is h (fun _ => ?_) (fun q => absurd y q)
    rw [if_neg (by decide)]
    unfold B_X3_setBit_27 B_sets_144 B_sets_145
    rw [bt_bc]
    refine k2_next hV.1 h hkl (fun w1 g1 => ?_)
    refine jx_r (y_ok rfl ?_)
    rw [if_pos h'.2.1]
    refine y_adv h' (by omega) (fun x1 r1 => jx_l ?_)
    rw [if_pos (s234.mpr y)]
    rcases oF_r hD with ⟨-, q⟩ | ⟨q, -⟩
    · obtain ⟨k1, q1, q2⟩ := oS_r (show oS E (oT (tyF v0) 59) (k + 1) (.inr j) from q)
      obtain ⟨t2, rfl⟩ := oT_r q2
      rw [bt_as]
      refine jx_bt (hE (k + 1) k1 w1 x1 e c q1 hkl g1 r1 h0) ?_ (fun _ _ => by repeat' (first | exact KP_some kp_rf | with_reducible refine KP_bn ?_ (fun _ _ => ?_) | with_reducible refine KP_if ?_ ?_ | with_reducible refine KP_rd (fun _ => ?_) | with_reducible refine KP_zr ?_ | (with_reducible refine KP_pu2 ?_ ?_; first | exact ks_sI (by decide) kp_rf | exact ks_sL kp_rf | exact ks_sA (by decide) kp_rf | exact ks_sB (by decide) kp_rf) | (with_reducible refine KP_wr2 ?_ ?_; first | exact ks_sA (by decide) kp_rf | exact ks_sB (by decide) kp_rf) | with_reducible exact h_ro _ _ _ _ | with_reducible exact sk_F_is | with_reducible exact sk_F_take | with_reducible exact sk_F_emit | with_reducible exact sk_F_wrong | with_reducible exact sk_F_cost | with_reducible exact sk_F_stuck | with_reducible exact sk_F_ends | with_reducible exact sk_F_begins | with_reducible exact sk_F_opens | with_reducible exact sk_F_has | with_reducible exact sk_F_isNumber | with_reducible exact sk_F_isNext | with_reducible exact sk_F_push | with_reducible exact sk_F_lead | with_reducible exact sk_F_here | with_reducible exact sk_F_kind | with_reducible exact sk_F_isKind | with_reducible exact sk_F_own | with_reducible exact sk_F_constant | with_reducible exact sk_F_bounded | with_reducible exact sk_F_joined | with_reducible exact sk_F_strength | with_reducible exact sk_F_leadAll | with_reducible exact sk_F_loop | with_reducible exact sk_F_label | with_reducible exact sk_F_leaves | with_reducible exact sk_F_telling | with_reducible exact sk_F_local | with_reducible exact sk_F_addSlot | with_reducible exact sk_F_addVariable | with_reducible exact sk_F_isTooWide | with_reducible exact sk_F_named | with_reducible exact sk_F_slotOf | with_reducible exact sk_F_bad | with_reducible exact sk_G_expression | with_reducible exact sk_G_spot | with_reducible exact sk_G_body | with_reducible exact sk_G_stat | with_reducible exact sk_B_sets_442 | with_reducible exact sk_B_sets_233 | with_reducible exact sk_B_sets_203 | with_reducible exact sk_B_sets_202 | with_reducible exact sk_B_sets_417 | with_reducible exact sk_B_sets_323 | with_reducible exact sk_B_sets_343 | with_reducible exact sk_B_sets_270 | with_reducible exact sk_B_sets_145 | with_reducible exact sk_B_sets_144 | with_reducible exact sk_B_sets_127 | with_reducible exact sk_B_sets_97 | with_reducible exact sk_B_sets_92 | with_reducible exact sk_B_sets_76 | with_reducible exact sk_B_sets_71 | with_reducible exact sk_B_sets_50 | with_reducible exact sk_B_sets_0 | with_reducible exact sk_F_sets))
      rintro b2 w2 q2 x2 ⟨⟨rfl, kd, e2, c2, g2, r2, s2, n2⟩, hk1⟩
      have hk1l : k1 < n := hV.lt hk1 (by rw [t2]; exact nEnd (by decide) (by decide) (by decide))
      rw [if_neg n81]
      have fin : ∀ w, CE v0 w k1 l e2 → jx (bt (B_X3_setBit_75 N m bi L w) fun _ u_17 => B_X3_assignment_104 N u_17) (B_sets_202 N c.2.2.1 c.2.2.2.1 (u0.2.2.1 3 k) x2) (SJq v0 u0 n (k1 + 1) o l) := by
        intro w hw
        unfold B_X3_setBit_75
        rw [bt_okj]
        refine pq_ok (fun _ => ?_)
        rw [bt_bc]
        refine k2_step hw (fun _ w3 g3 => ?_)
        rw [bt_bc]
        refine k2_put g3 (fun w4 g4 => ?_)
        show pq (B_X3_assignment_104 N w4) _
        unfold B_X3_assignment_104 B_sets_202 B_sets_203
        refine k2_next hV.1 g4 hk1l (fun w5 g5 => pq_some ?_)
        refine y_ok rfl ?_
        rw [if_neg n81]
        refine y_emit r2 (fun _ x3 r3 => ?_)
        unfold B_sets_233 B_sets_442
        exact y_take hV.2.1 (t := 59) (by decide +kernel) r3 hk1l t2 (fun x4 r4 => pp_some (Or.inr ⟨_, rfl, e2, c2, g5, r4, sfe_0 s2 h0, hk1l⟩))
      by_cases z : mI w2 m 8 = 0
      · rw [if_pos z, bt_bc]
        exact k2_get g2 (fun w3 g3 => fin w3 g3)
      · rw [if_neg z, bt_okj]
        refine pq_ok (fun _ => ?_)
        rw [bt_bc]
        exact k2_step g2 (fun _ w3 g3 => fin w3 g3)
    · exact absurd (Or.inl y) q
  · rw [if_neg (fun q => y (s234.mp q))]
    refine k2_is h (fun q => absurd q y) (fun _ => ?_)
    rw [if_pos rfl, bt_bc]
    refine k2_here h ?_
    rw [bt_as, hV.pl hk]
    refine jx_ref ?_
    unfold B_sets_145
    exact y_bad hj h' (by decide) (by decide) (fun _ _ => by repeat' (first | exact KP_some kp_rf | with_reducible refine KP_bn ?_ (fun _ _ => ?_) | with_reducible refine KP_if ?_ ?_ | with_reducible refine KP_rd (fun _ => ?_) | with_reducible refine KP_zr ?_ | (with_reducible refine KP_pu2 ?_ ?_; first | exact ks_sI (by decide) kp_rf | exact ks_sL kp_rf | exact ks_sA (by decide) kp_rf | exact ks_sB (by decide) kp_rf) | (with_reducible refine KP_wr2 ?_ ?_; first | exact ks_sA (by decide) kp_rf | exact ks_sB (by decide) kp_rf) | with_reducible exact h_ro _ _ _ _ | with_reducible exact sk_F_is | with_reducible exact sk_F_take | with_reducible exact sk_F_emit | with_reducible exact sk_F_wrong | with_reducible exact sk_F_cost | with_reducible exact sk_F_stuck | with_reducible exact sk_F_ends | with_reducible exact sk_F_begins | with_reducible exact sk_F_opens | with_reducible exact sk_F_has | with_reducible exact sk_F_isNumber | with_reducible exact sk_F_isNext | with_reducible exact sk_F_push | with_reducible exact sk_F_lead | with_reducible exact sk_F_here | with_reducible exact sk_F_kind | with_reducible exact sk_F_isKind | with_reducible exact sk_F_own | with_reducible exact sk_F_constant | with_reducible exact sk_F_bounded | with_reducible exact sk_F_joined | with_reducible exact sk_F_strength | with_reducible exact sk_F_leadAll | with_reducible exact sk_F_loop | with_reducible exact sk_F_label | with_reducible exact sk_F_leaves | with_reducible exact sk_F_telling | with_reducible exact sk_F_local | with_reducible exact sk_F_addSlot | with_reducible exact sk_F_addVariable | with_reducible exact sk_F_isTooWide | with_reducible exact sk_F_named | with_reducible exact sk_F_slotOf | with_reducible exact sk_F_bad | with_reducible exact sk_G_expression | with_reducible exact sk_G_spot | with_reducible exact sk_G_body | with_reducible exact sk_G_stat | with_reducible exact sk_B_sets_442 | with_reducible exact sk_B_sets_233 | with_reducible exact sk_B_sets_203 | with_reducible exact sk_B_sets_202 | with_reducible exact sk_B_sets_417 | with_reducible exact sk_B_sets_323 | with_reducible exact sk_B_sets_343 | with_reducible exact sk_B_sets_270 | with_reducible exact sk_B_sets_145 | with_reducible exact sk_B_sets_144 | with_reducible exact sk_B_sets_127 | with_reducible exact sk_B_sets_97 | with_reducible exact sk_B_sets_92 | with_reducible exact sk_B_sets_76 | with_reducible exact sk_B_sets_71 | with_reducible exact sk_B_sets_50 | with_reducible exact sk_B_sets_0 | with_reducible exact sk_F_sets))
/-- a setting -/
theorem j_sets (hV : EV2 v0 u0 n) (ho : b → o < 24) (hX : HX2 N v0 u0 n o l X) (hE : HE2 N v0 u0 n o l E) (hD : oS (dIdx (tyF v0) b X) (oS (dBit (tyF v0)) (oF (fun i => isAsg (tyF v0 i)) (oN (oS E (oT (tyF v0) 59))) (oF (fun i => tyF v0 i = 11051 ∨ tyF v0 i = 11565) (oN (oT (tyF v0) 59)) oR))) (i + 1) (.inr j)) (h : CE v0 v i l e) (h' : RE u0 u i o l c) (hi : i < n) (ht : tyF v0 i = 128) (h0 : e.1 = 0) : jx (F_X3_assignment N p v) (F_sets N u) (SJq v0 u0 n j o l) := by
  have hn2 := hV.2.1.2.2
  obtain ⟨a0, a1⟩ := e0_0 h0
  obtain ⟨k1, p1, p2⟩ := oS_r hD
  obtain ⟨k2, p3, p4⟩ := oS_r p2
  have h_ro : ∀ q a b u, KP (FE_ N 399 q a b u) u := sk_FE_ 399
  show jx _ (bn (F_spot N (FE_ N 399) 1 u) fun _ x => kS N x) _
  have kpS : ∀ (r : Int32) x, KP (kS N x) x := fun _ _ => by unfold kS; repeat' (first | exact KP_some kp_rf | with_reducible refine KP_bn ?_ (fun _ _ => ?_) | with_reducible refine KP_if ?_ ?_ | with_reducible refine KP_rd (fun _ => ?_) | with_reducible refine KP_zr ?_ | (with_reducible refine KP_pu2 ?_ ?_; first | exact ks_sI (by decide) kp_rf | exact ks_sL kp_rf | exact ks_sA (by decide) kp_rf | exact ks_sB (by decide) kp_rf) | (with_reducible refine KP_wr2 ?_ ?_; first | exact ks_sA (by decide) kp_rf | exact ks_sB (by decide) kp_rf) | with_reducible exact h_ro _ _ _ _ | with_reducible exact sk_F_is | with_reducible exact sk_F_take | with_reducible exact sk_F_emit | with_reducible exact sk_F_wrong | with_reducible exact sk_F_cost | with_reducible exact sk_F_stuck | with_reducible exact sk_F_ends | with_reducible exact sk_F_begins | with_reducible exact sk_F_opens | with_reducible exact sk_F_has | with_reducible exact sk_F_isNumber | with_reducible exact sk_F_isNext | with_reducible exact sk_F_push | with_reducible exact sk_F_lead | with_reducible exact sk_F_here | with_reducible exact sk_F_kind | with_reducible exact sk_F_isKind | with_reducible exact sk_F_own | with_reducible exact sk_F_constant | with_reducible exact sk_F_bounded | with_reducible exact sk_F_joined | with_reducible exact sk_F_strength | with_reducible exact sk_F_leadAll | with_reducible exact sk_F_loop | with_reducible exact sk_F_label | with_reducible exact sk_F_leaves | with_reducible exact sk_F_telling | with_reducible exact sk_F_local | with_reducible exact sk_F_addSlot | with_reducible exact sk_F_addVariable | with_reducible exact sk_F_isTooWide | with_reducible exact sk_F_named | with_reducible exact sk_F_slotOf | with_reducible exact sk_F_bad | with_reducible exact sk_G_expression | with_reducible exact sk_G_spot | with_reducible exact sk_G_body | with_reducible exact sk_G_stat | with_reducible exact sk_B_sets_442 | with_reducible exact sk_B_sets_233 | with_reducible exact sk_B_sets_203 | with_reducible exact sk_B_sets_202 | with_reducible exact sk_B_sets_417 | with_reducible exact sk_B_sets_323 | with_reducible exact sk_B_sets_343 | with_reducible exact sk_B_sets_270 | with_reducible exact sk_B_sets_145 | with_reducible exact sk_B_sets_144 | with_reducible exact sk_B_sets_127 | with_reducible exact sk_B_sets_97 | with_reducible exact sk_B_sets_92 | with_reducible exact sk_B_sets_76 | with_reducible exact sk_B_sets_71 | with_reducible exact sk_B_sets_50 | with_reducible exact sk_B_sets_0 | with_reducible exact sk_F_sets)
  unfold F_X3_assignment B_X3_assignment_0
  refine j_placeK (f := if tyF v0 (i + 1) = 91 then 1 else 0) kpS hV h h' hi ht h_ro rfl (fun m l3 l6 l8 x hk hm hx => ?_)
  refine pq_ok (fun _ => k2_next hV.1 h hi (fun w1 g1 => ?_))
  rw [g1.nm, hm]
  have tail : ∀ (w : CSt) (z : RSt) (e1 : E5) (c1 : R5), CE v0 w k1 l e1 → RE u0 z k1 o l c1 → e1.1 = 0 → k1 ≤ n → jx (B_X3_assignment_32 N p m w) (bn (B_spot_382 N (FE_ N 399) (mI v0 m 5) z) fun _ x => kS N x) (SJq v0 u0 n j o l) := by
    intro w z e1 c1 g r h00 hk1
    unfold B_X3_assignment_32 B_spot_382
    rcases oF_r p3 with ⟨y, q⟩ | ⟨y, q⟩
    · obtain ⟨t1, rfl⟩ := oT_r (show oT (tyF v0) 129 (k1 + 1) (.inr k2) from q)
      have hil := hV.lt hk1 (by rw [y]; exact nEnd (by decide) (by decide) (by decide))
      have hil2 := hV.lt (i := k1 + 1) hil (by rw [t1]; exact nEnd (by decide) (by decide) (by decide))
      refine k2_if g (fun _ => ?_) (fun q => absurd y q)
      rw [g.nm, bn_as]
      refine jx_r (y_has hV.2.1 (t := 46) (by decide +kernel) (nEnd (by decide) (by decide) (by decide)) r hk1 (fun _ _ z1 r1 => ?_) (fun q => absurd y q))
      rw [if_neg (by decide), bn_as]
      refine jx_l (j_bit hV hk g r1 hil hil2 t1 (fun bi w2 z2 hx g2 r2 => ?_) (fun _ _ => by unfold kS B_spot_409; repeat' (first | exact KP_some kp_rf | with_reducible refine KP_bn ?_ (fun _ _ => ?_) | with_reducible refine KP_if ?_ ?_ | with_reducible refine KP_rd (fun _ => ?_) | with_reducible refine KP_zr ?_ | (with_reducible refine KP_pu2 ?_ ?_; first | exact ks_sI (by decide) kp_rf | exact ks_sL kp_rf | exact ks_sA (by decide) kp_rf | exact ks_sB (by decide) kp_rf) | (with_reducible refine KP_wr2 ?_ ?_; first | exact ks_sA (by decide) kp_rf | exact ks_sB (by decide) kp_rf) | with_reducible exact h_ro _ _ _ _ | with_reducible exact sk_F_is | with_reducible exact sk_F_take | with_reducible exact sk_F_emit | with_reducible exact sk_F_wrong | with_reducible exact sk_F_cost | with_reducible exact sk_F_stuck | with_reducible exact sk_F_ends | with_reducible exact sk_F_begins | with_reducible exact sk_F_opens | with_reducible exact sk_F_has | with_reducible exact sk_F_isNumber | with_reducible exact sk_F_isNext | with_reducible exact sk_F_push | with_reducible exact sk_F_lead | with_reducible exact sk_F_here | with_reducible exact sk_F_kind | with_reducible exact sk_F_isKind | with_reducible exact sk_F_own | with_reducible exact sk_F_constant | with_reducible exact sk_F_bounded | with_reducible exact sk_F_joined | with_reducible exact sk_F_strength | with_reducible exact sk_F_leadAll | with_reducible exact sk_F_loop | with_reducible exact sk_F_label | with_reducible exact sk_F_leaves | with_reducible exact sk_F_telling | with_reducible exact sk_F_local | with_reducible exact sk_F_addSlot | with_reducible exact sk_F_addVariable | with_reducible exact sk_F_isTooWide | with_reducible exact sk_F_named | with_reducible exact sk_F_slotOf | with_reducible exact sk_F_bad | with_reducible exact sk_G_expression | with_reducible exact sk_G_spot | with_reducible exact sk_G_body | with_reducible exact sk_G_stat | with_reducible exact sk_B_sets_442 | with_reducible exact sk_B_sets_233 | with_reducible exact sk_B_sets_203 | with_reducible exact sk_B_sets_202 | with_reducible exact sk_B_sets_417 | with_reducible exact sk_B_sets_323 | with_reducible exact sk_B_sets_343 | with_reducible exact sk_B_sets_270 | with_reducible exact sk_B_sets_145 | with_reducible exact sk_B_sets_144 | with_reducible exact sk_B_sets_127 | with_reducible exact sk_B_sets_97 | with_reducible exact sk_B_sets_92 | with_reducible exact sk_B_sets_76 | with_reducible exact sk_B_sets_71 | with_reducible exact sk_B_sets_50 | with_reducible exact sk_B_sets_0 | with_reducible exact sk_F_sets)))
      unfold B_spot_409
      exact j_opB (c := (c1.1, c1.2.1, mI v0 m 5, bi, c1.2.2.2.2)) hV hE rfl hx p4 hil2 g2 ((r2.x80).x81) h00
    · have e2 := oE_r q
      subst e2
      refine k2_if g (fun q => absurd q y) (fun _ => ?_)
      rw [bn_as]
      refine jx_r (y_has hV.2.1 (t := 46) (by decide +kernel) (nEnd (by decide) (by decide) (by decide)) r hk1 (fun q => absurd q y) (fun _ => ?_))
      rw [if_pos rfl]
      unfold B_spot_409
      exact jx_l (j_op1 (c := (c1.1, c1.2.1, mI v0 m 5, -1, c1.2.2.2.2)) hV hE hk rfl rfl p4 hk1 g ((r.x80).x81) h00)
  have h305 : ∀ (C : Option (Sum Nat Int32 × CSt)) (l9 : Int32) (z : RSt) (c1 : R5), RE u0 z k1 o l c1 → (∀ z2, RE u0 z2 k1 o l c1 → jx C (bn (B_spot_382 N (FE_ N 399) (mI v0 m 5) z2) fun _ x => kS N x) (SJq v0 u0 n j o l)) → jx C (bn (B_spot_305 N (FE_ N 399) l3 1 l6 (mI v0 m 5) l9 z) fun _ x => kS N x) (SJq v0 u0 n j o l) := by
    intro C l9 z c1 r hC
    exact jx_r (pp_bn (y_305 r (fun z2 r2 => pp_nb (jx_l (hC z2 r2)))))
  unfold B_spot_283
  rw [bn_pu]
  rcases oF_r p1 with ⟨z, q⟩ | ⟨z, q⟩
  · rw [if_pos z, if_neg (by decide)]
    refine jx_r (y_adv hx (by omega) (fun x1 r1 => ?_))
    rw [if_neg (by decide), bn_as]
    refine jx_l (jx_bt (j_ix11 (d := 300) (p := p) hV ho hX q g1 r1 hi a0 (by omega)) ?_ (fun _ _ => by unfold kS; repeat' (first | exact KP_some kp_rf | with_reducible refine KP_bn ?_ (fun _ _ => ?_) | with_reducible refine KP_if ?_ ?_ | with_reducible refine KP_rd (fun _ => ?_) | with_reducible refine KP_zr ?_ | (with_reducible refine KP_pu2 ?_ ?_; first | exact ks_sI (by decide) kp_rf | exact ks_sL kp_rf | exact ks_sA (by decide) kp_rf | exact ks_sB (by decide) kp_rf) | (with_reducible refine KP_wr2 ?_ ?_; first | exact ks_sA (by decide) kp_rf | exact ks_sB (by decide) kp_rf) | with_reducible exact h_ro _ _ _ _ | with_reducible exact sk_F_is | with_reducible exact sk_F_take | with_reducible exact sk_F_emit | with_reducible exact sk_F_wrong | with_reducible exact sk_F_cost | with_reducible exact sk_F_stuck | with_reducible exact sk_F_ends | with_reducible exact sk_F_begins | with_reducible exact sk_F_opens | with_reducible exact sk_F_has | with_reducible exact sk_F_isNumber | with_reducible exact sk_F_isNext | with_reducible exact sk_F_push | with_reducible exact sk_F_lead | with_reducible exact sk_F_here | with_reducible exact sk_F_kind | with_reducible exact sk_F_isKind | with_reducible exact sk_F_own | with_reducible exact sk_F_constant | with_reducible exact sk_F_bounded | with_reducible exact sk_F_joined | with_reducible exact sk_F_strength | with_reducible exact sk_F_leadAll | with_reducible exact sk_F_loop | with_reducible exact sk_F_label | with_reducible exact sk_F_leaves | with_reducible exact sk_F_telling | with_reducible exact sk_F_local | with_reducible exact sk_F_addSlot | with_reducible exact sk_F_addVariable | with_reducible exact sk_F_isTooWide | with_reducible exact sk_F_named | with_reducible exact sk_F_slotOf | with_reducible exact sk_F_bad | with_reducible exact sk_G_expression | with_reducible exact sk_G_spot | with_reducible exact sk_G_body | with_reducible exact sk_G_stat | with_reducible exact sk_B_sets_442 | with_reducible exact sk_B_sets_233 | with_reducible exact sk_B_sets_203 | with_reducible exact sk_B_sets_202 | with_reducible exact sk_B_sets_417 | with_reducible exact sk_B_sets_323 | with_reducible exact sk_B_sets_343 | with_reducible exact sk_B_sets_270 | with_reducible exact sk_B_sets_145 | with_reducible exact sk_B_sets_144 | with_reducible exact sk_B_sets_127 | with_reducible exact sk_B_sets_97 | with_reducible exact sk_B_sets_92 | with_reducible exact sk_B_sets_76 | with_reducible exact sk_B_sets_71 | with_reducible exact sk_B_sets_50 | with_reducible exact sk_B_sets_0 | with_reducible exact sk_F_sets | (with_reducible refine sk_B_spot_409 ?_ <;> assumption) | (with_reducible refine sk_B_spot_382 ?_ <;> assumption) | (with_reducible refine sk_B_spot_361 ?_ <;> assumption) | (with_reducible refine sk_B_spot_331 ?_ <;> assumption) | (with_reducible refine sk_B_spot_305 ?_ <;> assumption) | (with_reducible refine sk_B_spot_283 ?_ <;> assumption) | (with_reducible refine sk_B_spot_269 ?_ <;> assumption) | (with_reducible refine sk_B_spot_268 ?_ <;> assumption) | (with_reducible refine sk_B_spot_233 ?_ <;> assumption) | (with_reducible refine sk_B_spot_232 ?_ <;> assumption) | (with_reducible refine sk_B_spot_223 ?_ <;> assumption) | (with_reducible refine sk_B_spot_185 ?_ <;> assumption) | (with_reducible refine sk_B_spot_153 ?_ <;> assumption) | (with_reducible refine sk_B_spot_108 ?_ <;> assumption) | (with_reducible refine sk_B_spot_107 ?_ <;> assumption) | (with_reducible refine sk_B_spot_84 ?_ <;> assumption) | (with_reducible refine sk_B_spot_83 ?_ <;> assumption) | (with_reducible refine sk_B_spot_65 ?_ <;> assumption) | (with_reducible refine sk_B_spot_64 ?_ <;> assumption) | (with_reducible refine sk_B_spot_43 ?_ <;> assumption) | (with_reducible refine sk_B_spot_0 ?_ <;> assumption) | (with_reducible refine sk_F_spot ?_ <;> assumption) | with_reducible exact sk_G_spot)))
    rintro b3 w3 q3 x3 ⟨e', c', g3, r3, s3, hj3⟩
    exact h305 _ _ x3 c' r3 (fun z2 r2 => tail w3 z2 e' c' g3 r2 (sfe_0 s3 h0) hj3)
  · have hk1 := oE_r q
    subst hk1
    rw [if_neg z, if_pos rfl]
    refine jx_r (y_adv hx (by omega) (fun x1 r1 => ?_))
    rw [if_pos rfl]
    exact jx_l (h305 _ _ x1 c r1 (fun z2 r2 => tail w1 z2 e c g1 r2 h0 hi))
end St2
