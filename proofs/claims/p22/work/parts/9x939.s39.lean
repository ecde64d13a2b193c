/-! The second pass: Stats that hold Stats: bodies, if, while. -/
def HB2 (N : Nat) (v0 : CSt) (u0 : RSt) (n o l : Nat) (B : Rl) : Prop := ∀ d d' i j v u e c, B i (.inr j) → i ≤ n → CE v0 v i l e → RE u0 u i o l c → e.1 = 0 → jx (FMS_ N d 0 0 0 0 v) (FS_ N d' 0 0 0 u) (SJq v0 u0 n j o l)
def HS2 (N : Nat) (v0 : CSt) (u0 : RSt) (n o l : Nat) (S : Rl) : Prop := ∀ d d' i j v u e c, S i (.inr j) → i ≤ n → CE v0 v i l e → RE u0 u i o l c → e.1 = 0 → jx (FMS_ N d 2 0 0 0 v) (FS_ N d' 1 0 0 u) (SJq v0 u0 n j o l)
section St3
variable {v0 v : CSt} {u0 u : RSt} {i j o l n N m d d' t : Nat} {e : E5} {c : R5} {X E B S : Rl} {b : Prop} {p l1 : Int32}
theorem bt_pc {β γ : Type} (x : CSt) (f : CSt → Option (Sum Nat β × CSt)) (k : β → CSt → Option (Sum Nat γ × CSt)) : bt (pc x f) k = pc x (fun w => bt (f w) k) := rfl
/-- Stats up to the } -/
theorem j_stats (hV : EV2 v0 u0 n) (ho : o < 24) (hS : HS2 N v0 u0 n (o + 1) l S) (hPg : Pg S) (hne : ∀ i j, S i (.inr j) → ¬ isEnd (tyF v0 i)) :
    ∀ q i j v u e c M M' k, oWn (fun i => ¬ tyF v0 i = 125) S (oT (tyF v0) 125) q i (.inr j) → i ≤ n → k ≤ i → CE v0 v i l e → RE u0 u i (o + 1) l c → e.1 = 0 → jx (LP_X3_statements_2 N (FMS_ N d) M (Int32.ofNat k, v)) (LP_body_7 N (FS_ N d') M' u) (SJq v0 u0 n j o l) := by
  have hn2 := hV.2.1.2.2
  have e15 : (1500 : Int32).toInt = 1500 := by decide
  have h_ro : ∀ q a b u, KP (FS_ N d' q a b u) u := sk_FS_ d'
  intro q
  induction q with
  | zero =>
    rintro i j v u e c M M' k ⟨z, hD⟩ hi hki h h' h0
    obtain ⟨t1, rfl⟩ := oT_r hD
    have hil := hV.lt hi (by rw [t1]; exact nEnd (by decide) (by decide) (by decide))
    cases M with
    | zero => exact jx_n1 rfl
    | succ M =>
      cases M' with
      | zero => exact jx_n2 rfl
      | succ M' =>
        show jx (B_X3_statements_2 N (FMS_ N d) (LP_X3_statements_2 N (FMS_ N d) M) (Int32.ofNat k) v) (B_body_7 N (FS_ N d') (LP_body_7 N (FS_ N d') M') u) _
        have fin : jx (B_X3_statements_31 N (FMS_ N d) v) (B_body_7 N (FS_ N d') (LP_body_7 N (FS_ N d') M') u) (SJq v0 u0 n (i + 1) o l) := by
          unfold B_X3_statements_31 B_body_7
          refine k2_here h (k2_next hV.1 h hil (fun w1 g1 => pq_some ?_))
          rw [if_pos h'.2.1]
          refine y_if hV.2.1 (t := 125) (by decide +kernel) h' hi (fun _ => ?_) (fun y => absurd t1 y)
          unfold B_body_31
          exact y_ends hV.2.1 (t := 125) (by decide +kernel) h' hil t1 (by omega) (fun x1 r1 => pp_some (Or.inr ⟨_, rfl, e, c, g1, r1, h0, hil⟩))
        unfold B_X3_statements_2
        exact pq_if (fun _ => fin) (fun _ => k2_if h (fun _ => fin) (fun y => absurd t1 y))
  | succ q ih =>
    rintro i j v u e c M M' k ⟨z, hD⟩ hi hki h h' h0
    obtain ⟨k1, p1, p2⟩ := oS_r hD
    have hgt := hPg _ _ p1
    have hil := hV.lt hi (hne _ _ p1)
    cases M with
    | zero => exact jx_n1 rfl
    | succ M =>
      cases M' with
      | zero => exact jx_n2 rfl
      | succ M' =>
        show jx (B_X3_statements_2 N (FMS_ N d) (LP_X3_statements_2 N (FMS_ N d) M) (Int32.ofNat k) v) (B_body_7 N (FS_ N d') (LP_body_7 N (FS_ N d') M') u) _
        have step : jx (bt (FMS_ N d 2 0 0 0 v) fun _ u_8 => LP_X3_statements_2 N (FMS_ N d) M ((Int32.ofNat k + 1), u_8)) (bn (FS_ N d' 1 0 0 u) fun _ u_6 => LP_body_7 N (FS_ N d') M' (u_6)) (SJq v0 u0 n j o l) := by
          refine jx_bt (hS d d' i k1 v u e c p1 hi h h' h0) ?_ (fun _ _ => sk_LP_body_7 h_ro M' _)
          rintro b2 w2 q2 x2 ⟨e2, c2, g2, r2, h02, hk1⟩
          rw [ofN1 (by omega)]
          exact ih k1 j w2 x2 e2 c2 M M' (k + 1) p2 hk1 (by omega) g2 r2 h02
        unfold B_X3_statements_2 B_body_7
        rw [if_pos h'.2.1]
        have ki := ofN_i (k := k) (by omega)
        rw [if_neg (fun y => by have := Int32.le_iff_toInt_le.mp y; rw [e15] at this; omega)]
        refine k2_if h (fun y => absurd y z) (fun _ => ?_)
        exact jx_r (y_if hV.2.1 (t := 125) (by decide +kernel) h' hi (fun y => absurd y z) (fun _ => jx_l step))
/-- { Stats } -/
theorem j_body (hV : EV2 v0 u0 n) (ho : b → o < 24) (hS : o < 24 → HS2 N v0 u0 n (o + 1) l S) (hPg : Pg S) (hne : ∀ i j, S i (.inr j) → ¬ isEnd (tyF v0 i)) : HB2 N v0 u0 n o l (dBody (tyF v0) b S) := by
  intro d d' i j v u e c hD hi h h' h0
  obtain ⟨k1, p1, q, p2⟩ := oS_r hD
  obtain ⟨t1, pb, rfl⟩ := oP_r p1
  have hil := hV.lt hi (by rw [t1]; exact nEnd (by decide) (by decide) (by decide))
  cases d with
  | zero => exact jx_n1 rfl
  | succ d =>
    cases d' with
    | zero => exact jx_n2 rfl
    | succ d' =>
      show jx (F_X3_body N (FMS_ N d) v) (F_body N (FS_ N d') u) _
      unfold F_X3_body B_X3_body_0 F_body B_body_0
      refine k2_next hV.1 h hil (fun w1 g1 => ?_)
      refine jx_r (y_begins hV.2.1 (t := 123) (by decide +kernel) h' hil t1 (ho pb) (fun x1 r1 => jx_l ?_))
      refine jx_btp (A := SJq v0 u0 n j o l) ?_ (fun b w r x hq => pq_some (Or.inr ⟨_, rfl, hq⟩))
      cases d with
      | zero => exact jx_n1 rfl
      | succ d =>
        show jx (F_X3_statements N (FMS_ N d) w1) _ _
        unfold F_X3_statements B_X3_statements_0
        exact j_stats hV (ho pb) (hS (ho pb)) hPg hne q (i + 1) j w1 x1 e c N N 0 p2 hil (by omega) g1 r1 h0
theorem k2_b0 {w : CSt} (h : CE v0 w i l e) (hl : l ≤ 100) : (cI w 13 + 1).toInt = (l + 1 : Nat) := by
  have h1 := h.2.2.1
  have e1 : (1 : Int32).toInt = 1 := by decide
  rw [tI_add (by omega) (by omega), e1, h1]
  omega
theorem k2_b1 {w : CSt} (h : CE v0 w i (l + 1) e) (hl : l ≤ 100) : (cI w 13 - 1).toInt = (l : Nat) := by
  have h1 := h.2.2.1
  have e1 : (1 : Int32).toInt = 1 := by decide
  rw [tI_sub (by omega) (by omega), e1, h1]
  omega
theorem y_un {k : RSt → Option (Int32 × RSt)} {Q : Int32 → RSt → Prop} (h : RE u0 u i o (l + 1) c) (hl : l ≤ 100) (kk : ∀ w, RE u0 w i o l c → pp (k w) Q) : pp (pu (sI u 74 (u.1 74 - 1)) k) Q := by
  refine kk _ (h.x74 ?_)
  have h6 := h.2.2.2.2.1
  have e1 : (1 : Int32).toInt = 1 := by decide
  rw [tI_sub (by omega) (by omega), e1, h6]
  omega
/-- a round: the body of a loop -/
theorem j_round {β γ : Type} {A : β → CSt → γ → RSt → Prop} {kC : Int32 → CSt → Option (Sum Nat β × CSt)} {k' : Int32 → RSt → Option (γ × RSt)} (hV : EV2 v0 u0 n) (hl : l ≤ 100) (hB : HB2 N v0 u0 n o (l + 1) B) (hD : B i (.inr j)) (hi : i ≤ n) (h : CE v0 v i l e) (h' : RE u0 u i o (l + 1) c) (h0 : e.1 = 0)
    (kk : ∀ w r x e' c', CE v0 w j l e' → RE u0 x j o (l + 1) c' → e'.1 = 0 → j ≤ n → jx (kC 0 w) (k' r x) A) (hs : ∀ r x, KP (k' r x) x) : jx (bt (FMS_ N d 5 0 p 0 v) kC) (bn (FS_ N d' 0 0 0 u) k') A := by
  cases d with
  | zero => exact jx_n1 rfl
  | succ d =>
    show jx (bt (F_X3_round N (FMS_ N d) p v) kC) _ _
    unfold F_X3_round B_X3_round_0
    rw [bt_pc]
    refine pq_pc ?_
    rw [bt_pc]
    refine pq_pc ?_
    rw [bt_okj]
    refine pq_ok (fun _ => ?_)
    rw [bt_bc]
    have g0 : CE v0 (xI v 15 (-1)) i l e := h.x6 (Or.inr rfl)
    refine k2_cost (g0.x13 (k2_b0 g0 hl)) (fun w1 g1 => ?_)
    rw [bt_as]
    refine jx_bt (hB d d' i j w1 u e c hD hi g1 h' h0) ?_ hs
    rintro b2 w2 q2 x2 ⟨e2, c2, g2, r2, h02, hjn⟩
    rw [bt_pc]
    refine pq_pc ?_
    rw [bt_okj]
    refine pq_ok (fun _ => ?_)
    rw [bt_bc]
    refine k2_land (g2.x13 (k2_b1 g2 hl)) (fun w3 g3 => ?_)
    rw [bt_pc]
    refine pq_pc ?_
    exact kk _ q2 x2 e2 c2 (g3.x6 (Or.inr rfl)) r2 h02 hjn
/-- while -/
theorem j_again (hV : EV2 v0 u0 n) (hl : l ≤ 100) (hE : HE2 N v0 u0 n o l E) (hB : HB2 N v0 u0 n o (l + 1) B) (hD : oS E B (i + 1) (.inr j)) (hi : i < n) (h : CE v0 v i l e) (h' : RE u0 u (i + 1) o l c) (h0 : e.1 = 0) : jx (FMS_ N d 4 0 p 0 v) (FS_ N d' 3 l1 0 u) (SJq v0 u0 n j o l) := by
  obtain ⟨k1, p1, p2⟩ := oS_r hD
  cases d with
  | zero => exact jx_n1 rfl
  | succ d =>
    cases d' with
    | zero => exact jx_n2 rfl
    | succ d' =>
      have h_ro : ∀ q a b u, KP (FS_ N d' q a b u) u := sk_FS_ d'
      show jx (F_X3_loop N (FMS_ N d) p v) (F_again N (FS_ N d') l1 u) _
      unfold F_X3_loop B_X3_loop_0 F_again B_again_0
      refine k2_next hV.1 h hi (fun w1 g1 => pq_ok (fun _ => ?_))
      refine jx_r (y_here (fun r1 => jx_l ?_))
      refine jx_bt (hE (i + 1) k1 w1 u e c p1 hi g1 h' h0) ?_ (fun _ _ => by repeat' (first | exact KP_some kp_rf | with_reducible refine KP_bn ?_ (fun _ _ => ?_) | with_reducible refine KP_if ?_ ?_ | with_reducible refine KP_rd (fun _ => ?_) | with_reducible refine KP_zr ?_ | (with_reducible refine KP_pu2 ?_ ?_; first | exact ks_sI (by decide) kp_rf | exact ks_sL kp_rf | exact ks_sA (by decide) kp_rf | exact ks_sB (by decide) kp_rf) | (with_reducible refine KP_wr2 ?_ ?_; first | exact ks_sA (by decide) kp_rf | exact ks_sB (by decide) kp_rf) | with_reducible exact h_ro _ _ _ _ | with_reducible exact sk_F_is | with_reducible exact sk_F_take | with_reducible exact sk_F_emit | with_reducible exact sk_F_wrong | with_reducible exact sk_F_cost | with_reducible exact sk_F_stuck | with_reducible exact sk_F_ends | with_reducible exact sk_F_begins | with_reducible exact sk_F_opens | with_reducible exact sk_F_has | with_reducible exact sk_F_isNumber | with_reducible exact sk_F_isNext | with_reducible exact sk_F_push | with_reducible exact sk_F_lead | with_reducible exact sk_F_here | with_reducible exact sk_F_kind | with_reducible exact sk_F_isKind | with_reducible exact sk_F_own | with_reducible exact sk_F_constant | with_reducible exact sk_F_bounded | with_reducible exact sk_F_joined | with_reducible exact sk_F_strength | with_reducible exact sk_F_leadAll | with_reducible exact sk_F_loop | with_reducible exact sk_F_label | with_reducible exact sk_F_leaves | with_reducible exact sk_F_telling | with_reducible exact sk_F_local | with_reducible exact sk_F_addSlot | with_reducible exact sk_F_addVariable | with_reducible exact sk_F_isTooWide | with_reducible exact sk_F_named | with_reducible exact sk_F_slotOf | with_reducible exact sk_F_bad | with_reducible exact sk_G_expression | with_reducible exact sk_G_spot | with_reducible exact sk_G_body | with_reducible exact sk_G_stat | (with_reducible refine sk_B_again_0 ?_ <;> assumption) | (with_reducible refine sk_F_again ?_ <;> assumption)))
      rintro b2 w2 q2 x2 ⟨⟨rfl, kd, e2, c2, g2, r2, s2, n2⟩, hk1⟩
      refine pq_ok (fun _ => k2_step g2 (fun r3 w3 g3 => pq_pc ?_))
      refine jx_r (y_emit r2 (fun a3 x3 r3 => y_cost r3 (fun x4 r4 => y_loop r4 hl (fun x5 r5 => jx_l ?_))))
      refine j_round hV hl hB p2 hk1 (g3.x6 (Or.inl rfl)) r5 (sfe_0 s2 h0) ?_ (fun _ _ => by repeat' (first | exact KP_some kp_rf | with_reducible refine KP_bn ?_ (fun _ _ => ?_) | with_reducible refine KP_if ?_ ?_ | with_reducible refine KP_rd (fun _ => ?_) | with_reducible refine KP_zr ?_ | (with_reducible refine KP_pu2 ?_ ?_; first | exact ks_sI (by decide) kp_rf | exact ks_sL kp_rf | exact ks_sA (by decide) kp_rf | exact ks_sB (by decide) kp_rf) | (with_reducible refine KP_wr2 ?_ ?_; first | exact ks_sA (by decide) kp_rf | exact ks_sB (by decide) kp_rf) | with_reducible exact h_ro _ _ _ _ | with_reducible exact sk_F_is | with_reducible exact sk_F_take | with_reducible exact sk_F_emit | with_reducible exact sk_F_wrong | with_reducible exact sk_F_cost | with_reducible exact sk_F_stuck | with_reducible exact sk_F_ends | with_reducible exact sk_F_begins | with_reducible exact sk_F_opens | with_reducible exact sk_F_has | with_reducible exact sk_F_isNumber | with_reducible exact sk_F_isNext | with_reducible exact sk_F_push | with_reducible exact sk_F_lead | with_reducible exact sk_F_here | with_reducible exact sk_F_kind | with_reducible exact sk_F_isKind | with_reducible exact sk_F_own | with_reducible exact sk_F_constant | with_reducible exact sk_F_bounded | with_reducible exact sk_F_joined | with_reducible exact sk_F_strength | with_reducible exact sk_F_leadAll | with_reducible exact sk_F_loop | with_reducible exact sk_F_label | with_reducible exact sk_F_leaves | with_reducible exact sk_F_telling | with_reducible exact sk_F_local | with_reducible exact sk_F_addSlot | with_reducible exact sk_F_addVariable | with_reducible exact sk_F_isTooWide | with_reducible exact sk_F_named | with_reducible exact sk_F_slotOf | with_reducible exact sk_F_bad | with_reducible exact sk_G_expression | with_reducible exact sk_G_spot | with_reducible exact sk_G_body | with_reducible exact sk_G_stat | (with_reducible refine sk_B_again_0 ?_ <;> assumption) | (with_reducible refine sk_F_again ?_ <;> assumption)))
      intro w6 q6 x6 e6 c6 g6 r6 h06 hjn
      refine pq_ok (fun _ => k2_step g6 (fun _ w7 g7 => pq_ok (fun _ => k2_land g7 (fun w8 g8 => pq_pc (pq_some ?_)))))
      refine y_un r6 hl (fun x7 r7 => pp_rd (y_leadAll r7 (fun x8 r8 => y_emit r8 (fun _ x9 r9 => y_lead r9 (fun x10 r10 => pp_rd (y_leadAll r10 (fun x11 r11 => pp_some (Or.inr ⟨_, rfl, e6, c6, g8.x6 (Or.inl rfl), r11, h06, hjn⟩))))))))
end St3
