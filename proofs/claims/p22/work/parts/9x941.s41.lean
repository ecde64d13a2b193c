/-! The second pass: case; Stat; by levels. -/
section St5
variable {v0 v : CSt} {u0 u : RSt} {i j o l n N m d d' t : Nat} {e : E5} {c : R5} {X E B B' S : Rl} {b : Prop} {p l1 l2 l3 l4 l5 : Int32}
theorem fits4 (x : Int64) : ¬ n_fits 4 x = 0 := by
  unfold n_fits
  rw [if_pos (show n_cut 4 x = x from rfl)]
  decide
/-- a label -/
theorem j_label {γ : Type} {A : Int32 → CSt → γ → RSt → Prop} {R : Int32 × CSt → Option (Sum Nat Int32 × CSt)} {k' : Int32 → RSt → Option (γ × RSt)} (hV : EV2 v0 u0 n) (hD : dLab (tyF v0) i (.inr j)) (h : CE v0 v i l e) (h' : RE u0 u i o l c) (hi : i ≤ n)
    (kk : ∀ w r x c', CE v0 w j l e → RE u0 x j o l c' → j ≤ n → jx (R (l1 + 1, w)) (k' r x) A) (hs : ∀ r x, KP (k' r x) x) : jx (bt (F_X3_constant N 4 v) fun r_9 u_8 => bc (F_X9_is N 11822 u_8) fun r_12 u_11 => if r_12 = (0 : Int32) then (B_X3_labels_90 N R l1 r_9 r_9 u_11) else (bc (F_X9_next N u_11) fun _ u_14 => bc (F_X9_here N u_14) fun r_16 u_15 => bt (F_X3_constant N 4 u_15) fun r_18 u_17 => if r_9 ≤ r_18 then (B_X3_labels_90 N R l1 r_9 r_18 u_17) else (bt (F_X9_refuse N 5 r_16 u_17) fun _ u_21 => B_X3_labels_90 N R l1 r_9 r_18 u_21))) (bn (F_label N u) k') A := by
  have hj := hV.2.2.2.2.1
  obtain ⟨k1, p1, p2⟩ := oS_r hD
  have h59 : ∀ (a1 a2 : Int64) (w : CSt) (x : RSt) (c2 : R5), CE v0 w j l e → RE u0 x j o l c2 → j ≤ n → jx (B_X3_labels_90 N R l1 a1 a2 w) (bn (B_label_59 N a1 a2 x) k') A := by
    intro a1 a2 w x c2 hw hx hjn
    unfold B_X3_labels_90
    refine pq_ok (fun _ => k2_label hw (fun w2 g2 => jx_r (pp_bn ?_)))
    unfold B_label_59
    refine y_emit hx (fun a3 x3 r3 => ?_)
    rw [if_neg (by rw [r3.sc (by decide)]; exact hj), if_pos r3.2.1]
    exact pp_wr (pp_wr (pp_some (jx_l (kk w2 0 _ c2 g2 ((r3.uB (by decide)).uB (by decide)) hjn))))
  unfold F_label B_label_0
  rw [bn_as]
  refine j_const hV p1 h h' hi (fun w1 z1 t1 hj1 ht1 g1 r1 => ?_) (fun _ _ => by (repeat' (first | exact KP_some kp_rf | with_reducible refine KP_bn ?_ (fun _ _ => ?_) | with_reducible refine KP_if ?_ ?_ | with_reducible refine KP_rd (fun _ => ?_) | with_reducible refine KP_zr ?_ | (with_reducible refine KP_pu2 ?_ ?_; first | exact ks_sI (by decide) kp_rf | exact ks_sL kp_rf | exact ks_sA (by decide) kp_rf | exact ks_sB (by decide) kp_rf) | (with_reducible refine KP_wr2 ?_ ?_; first | exact ks_sA (by decide) kp_rf | exact ks_sB (by decide) kp_rf) | with_reducible exact h_ro _ _ _ _ | with_reducible exact sk_F_is | with_reducible exact sk_F_take | with_reducible exact sk_F_emit | with_reducible exact sk_F_wrong | with_reducible exact sk_F_cost | with_reducible exact sk_F_stuck | with_reducible exact sk_F_ends | with_reducible exact sk_F_begins | with_reducible exact sk_F_opens | with_reducible exact sk_F_has | with_reducible exact sk_F_isNumber | with_reducible exact sk_F_isNext | with_reducible exact sk_F_push | with_reducible exact sk_F_lead | with_reducible exact sk_F_here | with_reducible exact sk_F_kind | with_reducible exact sk_F_isKind | with_reducible exact sk_F_own | with_reducible exact sk_F_constant | with_reducible exact sk_F_bounded | with_reducible exact sk_F_joined | with_reducible exact sk_F_strength | with_reducible exact sk_F_leadAll | with_reducible exact sk_F_loop | with_reducible exact sk_F_label | with_reducible exact sk_F_leaves | with_reducible exact sk_F_telling | with_reducible exact sk_F_local | with_reducible exact sk_F_addSlot | with_reducible exact sk_F_addVariable | with_reducible exact sk_F_isTooWide | with_reducible exact sk_F_named | with_reducible exact sk_F_slotOf | with_reducible exact sk_F_bad | with_reducible exact sk_G_expression | with_reducible exact sk_G_spot | with_reducible exact sk_G_body | with_reducible exact sk_G_stat | with_reducible exact sk_B_label_59 | with_reducible exact sk_B_label_53 | with_reducible exact sk_B_label_0 | with_reducible exact sk_F_label)); all_goals exact hs _ _)
  unfold B_X3_constant_60
  rw [if_neg (fits4 _), bt_inr]
  have e77 : ∀ {z : RSt} {q : Nat} {c1 : R5}, RE u0 z q o l c1 → z.2.1 77 = c1.2.2.2.2 := fun hz => by rw [← hz.2.2.2.2.2]; rfl
  rw [e77 r1, bn_as]
  have hk1n : k1 ≤ n := by omega
  rcases oF_r p2 with ⟨z, q⟩ | ⟨z, q⟩
  · have hk1l := hV.lt hk1n (by rw [z]; exact nEnd (by decide) (by decide) (by decide))
    refine k2_is g1 (fun _ => ?_) (fun y => absurd z y)
    rw [if_neg (by decide)]
    refine k2_next hV.1 g1 hk1l (fun w2 g2 => k2_here g2 ?_)
    refine jx_r (y_has hV.2.1 (t := 11822) (by decide +kernel) (nEnd (by decide) (by decide) (by decide)) r1 hk1n (fun _ _ z2 r2 => ?_) (fun y => absurd z y))
    rw [if_neg (by decide), bn_rd]
    refine y_rA r2 (by decide) ?_
    rw [bn_as]
    refine jx_l (j_const hV (show dC (tyF v0) (k1 + 1) (.inr j) from q) g2 r2 hk1l (fun w3 z3 t3 hj3 ht3 g3 r3 => ?_) (fun _ _ => by (repeat' (first | exact KP_some kp_rf | with_reducible refine KP_bn ?_ (fun _ _ => ?_) | with_reducible refine KP_if ?_ ?_ | with_reducible refine KP_rd (fun _ => ?_) | with_reducible refine KP_zr ?_ | (with_reducible refine KP_pu2 ?_ ?_; first | exact ks_sI (by decide) kp_rf | exact ks_sL kp_rf | exact ks_sA (by decide) kp_rf | exact ks_sB (by decide) kp_rf) | (with_reducible refine KP_wr2 ?_ ?_; first | exact ks_sA (by decide) kp_rf | exact ks_sB (by decide) kp_rf) | with_reducible exact h_ro _ _ _ _ | with_reducible exact sk_F_is | with_reducible exact sk_F_take | with_reducible exact sk_F_emit | with_reducible exact sk_F_wrong | with_reducible exact sk_F_cost | with_reducible exact sk_F_stuck | with_reducible exact sk_F_ends | with_reducible exact sk_F_begins | with_reducible exact sk_F_opens | with_reducible exact sk_F_has | with_reducible exact sk_F_isNumber | with_reducible exact sk_F_isNext | with_reducible exact sk_F_push | with_reducible exact sk_F_lead | with_reducible exact sk_F_here | with_reducible exact sk_F_kind | with_reducible exact sk_F_isKind | with_reducible exact sk_F_own | with_reducible exact sk_F_constant | with_reducible exact sk_F_bounded | with_reducible exact sk_F_joined | with_reducible exact sk_F_strength | with_reducible exact sk_F_leadAll | with_reducible exact sk_F_loop | with_reducible exact sk_F_label | with_reducible exact sk_F_leaves | with_reducible exact sk_F_telling | with_reducible exact sk_F_local | with_reducible exact sk_F_addSlot | with_reducible exact sk_F_addVariable | with_reducible exact sk_F_isTooWide | with_reducible exact sk_F_named | with_reducible exact sk_F_slotOf | with_reducible exact sk_F_bad | with_reducible exact sk_G_expression | with_reducible exact sk_G_spot | with_reducible exact sk_G_body | with_reducible exact sk_G_stat | with_reducible exact sk_B_label_59 | with_reducible exact sk_B_label_53 | with_reducible exact sk_B_label_0 | with_reducible exact sk_F_label)); all_goals exact hs _ _))
    unfold B_X3_constant_60
    rw [if_neg (fits4 _), bt_inr, e77 r3]
    have hjn : j ≤ n := by omega
    by_cases y : cvR v0 u0 i t1 ≤ cvR v0 u0 (k1 + 1) t3
    · rw [if_pos y, if_pos y]
      unfold B_label_53
      rw [bn_as]
      exact jx_r (y_ok rfl (jx_l (h59 _ _ w3 z3 _ g3 r3 hjn)))
    · rw [if_neg y, if_neg y, hV.pl (i := k1 + 1) hk1l]
      refine jx_ref (pp_to hs ?_)
      unfold B_label_53
      exact y_bad hj r3 (by decide) (by decide) (fun _ _ => by (repeat' (first | exact KP_some kp_rf | with_reducible refine KP_bn ?_ (fun _ _ => ?_) | with_reducible refine KP_if ?_ ?_ | with_reducible refine KP_rd (fun _ => ?_) | with_reducible refine KP_zr ?_ | (with_reducible refine KP_pu2 ?_ ?_; first | exact ks_sI (by decide) kp_rf | exact ks_sL kp_rf | exact ks_sA (by decide) kp_rf | exact ks_sB (by decide) kp_rf) | (with_reducible refine KP_wr2 ?_ ?_; first | exact ks_sA (by decide) kp_rf | exact ks_sB (by decide) kp_rf) | with_reducible exact h_ro _ _ _ _ | with_reducible exact sk_F_is | with_reducible exact sk_F_take | with_reducible exact sk_F_emit | with_reducible exact sk_F_wrong | with_reducible exact sk_F_cost | with_reducible exact sk_F_stuck | with_reducible exact sk_F_ends | with_reducible exact sk_F_begins | with_reducible exact sk_F_opens | with_reducible exact sk_F_has | with_reducible exact sk_F_isNumber | with_reducible exact sk_F_isNext | with_reducible exact sk_F_push | with_reducible exact sk_F_lead | with_reducible exact sk_F_here | with_reducible exact sk_F_kind | with_reducible exact sk_F_isKind | with_reducible exact sk_F_own | with_reducible exact sk_F_constant | with_reducible exact sk_F_bounded | with_reducible exact sk_F_joined | with_reducible exact sk_F_strength | with_reducible exact sk_F_leadAll | with_reducible exact sk_F_loop | with_reducible exact sk_F_label | with_reducible exact sk_F_leaves | with_reducible exact sk_F_telling | with_reducible exact sk_F_local | with_reducible exact sk_F_addSlot | with_reducible exact sk_F_addVariable | with_reducible exact sk_F_isTooWide | with_reducible exact sk_F_named | with_reducible exact sk_F_slotOf | with_reducible exact sk_F_bad | with_reducible exact sk_G_expression | with_reducible exact sk_G_spot | with_reducible exact sk_G_body | with_reducible exact sk_G_stat | with_reducible exact sk_B_label_59 | with_reducible exact sk_B_label_53 | with_reducible exact sk_B_label_0 | with_reducible exact sk_F_label)); all_goals exact hs _ _)
  · have ej := oE_r q
    subst ej
    refine k2_is g1 (fun y => absurd y z) (fun _ => ?_)
    rw [if_pos rfl]
    refine jx_r (y_has hV.2.1 (t := 11822) (by decide +kernel) (nEnd (by decide) (by decide) (by decide)) r1 hk1n (fun y => absurd y z) (fun _ => ?_))
    rw [if_pos rfl]
    exact jx_l (h59 _ _ w1 z1 _ g1 r1 hk1n)
/-- one label, both -/
theorem j_lab1 {A : Int32 → CSt → Int32 → RSt → Prop} {R14 : Int32 × RSt → Option (Int32 × RSt)} {kC : Int32 → CSt → Option (Sum Nat Int32 × CSt)} {k M M' : Nat} (hV : EV2 v0 u0 n) (h14 : ∀ a, KP (R14 a) a.2) (hk : k < 1500) (ht : ¬ tyF v0 i = 123) (hD : dLab (tyF v0) (i + 1) (.inr j)) (hi : i < n) (h : CE v0 v i l e) (h' : RE u0 u i o l c)
    (kk : ∀ w x c', CE v0 w j l e → RE u0 x j o l c' → j ≤ n → jx (bt (LP_X3_labels_2 N M (Int32.ofNat (k + 1), w)) kC) (bn (F_is N 230 x) fun r_15 u_14 => if r_15 = (0 : Int32) then (bn (F_emit N 28 0 0 u_14) fun r_18 u_17 => LP_cases_65 N (FS_ N d') R14 N (l2, r_18, l3, u_17)) else (LP_cases_28 N (FS_ N d') R14 M' (l2, l3, u_14))) A) : jx (bt (B_X3_labels_2 N (LP_X3_labels_2 N M) (Int32.ofNat k) v) kC) (B_cases_28 N (FS_ N d') R14 (LP_cases_28 N (FS_ N d') R14 M') l2 l3 u) A := by
  have hn2 := hV.2.1.2.2
  have e15 : (1500 : Int32).toInt = 1500 := by decide
  have h_ro : ∀ q a b u, KP (FS_ N d' q a b u) u := sk_FS_ d'
  have ki := ofN_i (k := k) (by omega)
  unfold B_X3_labels_2 B_cases_28
  rw [if_neg (fun y => by have := Int32.le_iff_toInt_le.mp y; rw [e15] at this; omega), bt_bc]
  refine k2_is h (fun y => absurd y ht) (fun _ => ?_)
  rw [if_pos rfl, bt_bc]
  refine k2_next hV.1 h hi (fun w1 g1 => ?_)
  refine jx_r (y_adv h' (by omega) (fun x1 r1 => jx_l ?_))
  have hR28 : ∀ a, KP (LP_cases_28 N (FS_ N d') R14 M' a) a.2.2 := sk_LP_cases_28 h_ro h14 M'
  have lab := j_label (l1 := Int32.ofNat k) (R := fun a => bt (LP_X3_labels_2 N M a) kC) (A := A) (k' := fun _ u_13 => bn (F_is N 230 u_13) fun r_15 u_14 => if r_15 = (0 : Int32) then (bn (F_emit N 28 0 0 u_14) fun r_18 u_17 => LP_cases_65 N (FS_ N d') R14 N (l2, r_18, l3, u_17)) else (LP_cases_28 N (FS_ N d') R14 M' (l2, l3, u_14))) (N := N) hV hD g1 r1 hi (fun w2 r2 x2 c2 g2 rr2 hk1 => by rw [ofN1 (by omega)]; exact kk w2 x2 c2 g2 rr2 hk1) (fun _ _ => by have h_R_14 := h14; have h_R_28 := hR28; repeat' (first | exact KP_some kp_rf | with_reducible refine KP_bn ?_ (fun _ _ => ?_) | with_reducible refine KP_if ?_ ?_ | with_reducible refine KP_rd (fun _ => ?_) | with_reducible refine KP_zr ?_ | (with_reducible refine KP_pu2 ?_ ?_; first | exact ks_sI (by decide) kp_rf | exact ks_sL kp_rf | exact ks_sA (by decide) kp_rf | exact ks_sB (by decide) kp_rf) | (with_reducible refine KP_wr2 ?_ ?_; first | exact ks_sA (by decide) kp_rf | exact ks_sB (by decide) kp_rf) | with_reducible exact h_ro _ _ _ _ | with_reducible exact sk_F_is | with_reducible exact sk_F_take | with_reducible exact sk_F_emit | with_reducible exact sk_F_wrong | with_reducible exact sk_F_cost | with_reducible exact sk_F_stuck | with_reducible exact sk_F_ends | with_reducible exact sk_F_begins | with_reducible exact sk_F_opens | with_reducible exact sk_F_has | with_reducible exact sk_F_isNumber | with_reducible exact sk_F_isNext | with_reducible exact sk_F_push | with_reducible exact sk_F_lead | with_reducible exact sk_F_here | with_reducible exact sk_F_kind | with_reducible exact sk_F_isKind | with_reducible exact sk_F_own | with_reducible exact sk_F_constant | with_reducible exact sk_F_bounded | with_reducible exact sk_F_joined | with_reducible exact sk_F_strength | with_reducible exact sk_F_leadAll | with_reducible exact sk_F_loop | with_reducible exact sk_F_label | with_reducible exact sk_F_leaves | with_reducible exact sk_F_telling | with_reducible exact sk_F_local | with_reducible exact sk_F_addSlot | with_reducible exact sk_F_addVariable | with_reducible exact sk_F_isTooWide | with_reducible exact sk_F_named | with_reducible exact sk_F_slotOf | with_reducible exact sk_F_bad | with_reducible exact sk_G_expression | with_reducible exact sk_G_spot | with_reducible exact sk_G_body | with_reducible exact sk_G_stat | (with_reducible refine sk_B_cases_103 ?_ ?_ <;> assumption) | (with_reducible refine sk_B_cases_65 ?_ ?_ ?_ <;> assumption) | (with_reducible refine sk_LP_cases_65 ?_ ?_ _ _ <;> assumption) | (with_reducible refine sk_B_cases_28 ?_ ?_ ?_ <;> assumption) | (with_reducible refine sk_LP_cases_28 ?_ ?_ _ _ <;> assumption) | (with_reducible refine sk_B_cases_151 ?_ <;> assumption) | (with_reducible refine sk_B_cases_14 ?_ ?_ <;> assumption) | (with_reducible refine sk_LP_cases_14 ?_ _ _ <;> assumption) | (with_reducible refine sk_B_cases_0 ?_ <;> assumption) | (with_reducible refine sk_F_cases ?_ <;> assumption)))
  unfold B_X3_labels_90 at lab
  rw [bt_as]
  simp only [bt_bc, bt_as, bt_okj, bt_if]
  unfold B_X3_labels_90
  simp only [bt_bc, bt_as, bt_okj, bt_if]
  exact lab
/-- labels: the class stops at the { , the reference goes on to the body -/
theorem j_labels {A : Int32 → CSt → Int32 → RSt → Prop} {R14 : Int32 × RSt → Option (Int32 × RSt)} {kC : Int32 → CSt → Option (Sum Nat Int32 × CSt)} (hV : EV2 v0 u0 n) (h14 : ∀ a, KP (R14 a) a.2) (hB123 : ∀ i j, B i (.inr j) → tyF v0 i = 123) :
    ∀ q i k v u e c M M' l2 l3, oWn (fun i => tyF v0 i = 44) (oN (dLab (tyF v0))) B q i (.inr j) → i ≤ n → k ≤ i → CE v0 v i l e → RE u0 u i o l c →
    (∀ i2 w x c2 l2' l4', B i2 (.inr j) → i2 ≤ n → CE v0 w i2 l e → RE u0 x i2 o l c2 → jx (kC 0 w) (B_cases_103 N (FS_ N d') R14 l2' l4' x) A) → jx (bt (LP_X3_labels_2 N M (Int32.ofNat k, v)) kC) (bn (F_is N 230 u) fun r_15 u_14 => if r_15 = (0 : Int32) then (bn (F_emit N 28 0 0 u_14) fun r_18 u_17 => LP_cases_65 N (FS_ N d') R14 N (l2, r_18, l3, u_17)) else (LP_cases_28 N (FS_ N d') R14 M' (l2, l3, u_14))) A := by
  have hn2 := hV.2.1.2.2
  have hj := hV.2.2.2.2.1
  have e15 : (1500 : Int32).toInt = 1500 := by decide
  have h_ro : ∀ q a b u, KP (FS_ N d' q a b u) u := sk_FS_ d'
  have loop : ∀ {Q : Int32 → RSt → Prop} {i2 : Nat} {c2 : R5} {l2 l4 : Int32}, (∀ x, RE u0 x i2 o l c2 → pp (B_cases_103 N (FS_ N d') R14 l2 l4 x) Q) → ∀ (M : Nat) (a : Int32 × Int32 × Int32 × RSt), (a.1 = l2 ∧ a.2.1 = l4 ∧ RE u0 a.2.2.2 i2 o l c2) → pp (LP_cases_65 N (FS_ N d') R14 M a) Q := by
    intro Q i2 c2 l2 l4 hQ
    refine pp_lp (Z := fun _ => Q) (fun (a : Int32 × Int32 × Int32 × RSt) => a.1 = l2 ∧ a.2.1 = l4 ∧ RE u0 a.2.2.2 i2 o l c2) ?_
    rintro R ⟨y1, y2, y3, z⟩ ⟨hz1, hz2, hz⟩ ih
    dsimp only at hz1 hz2 hz
    subst hz1 hz2
    show pp (B_cases_65 N (FS_ N d') R14 R y1 y2 y3 z) _
    unfold B_cases_65
    rw [if_neg (by rw [hz.sc (by decide)]; exact hj), if_pos hz.2.1]
    refine pp_if (fun _ => hQ z hz) (fun _ => y_here (fun _ => pp_wr ?_))
    exact ih _ ⟨rfl, rfl, hz.uA (by decide)⟩
  intro q
  induction q with
  | zero =>
    rintro i k v u e c M M' l2 l3 ⟨z, hD⟩ hi hki h h' kk
    have t1 := hB123 _ _ hD
    cases M with
    | zero => exact jx_n1 rfl
    | succ M =>
      show jx (bt (B_X3_labels_2 N (LP_X3_labels_2 N M) (Int32.ofNat k) v) kC) _ _
      have ref : ∀ {C : Option (Sum Nat Int32 × CSt)}, (∀ x l4, RE u0 x i o l c → jx C (B_cases_103 N (FS_ N d') R14 l2 l4 x) A) → jx C (bn (F_is N 230 u) fun r_15 u_14 => if r_15 = (0 : Int32) then (bn (F_emit N 28 0 0 u_14) fun r_18 u_17 => LP_cases_65 N (FS_ N d') R14 N (l2, r_18, l3, u_17)) else (LP_cases_28 N (FS_ N d') R14 M' (l2, l3, u_14))) A := by
        intro C hC
        refine jx_r (y_is hV.2.1 (t := 44) (by decide +kernel) h' hi (fun y => absurd y z) (fun _ => ?_))
        rw [if_pos rfl]
        refine y_emit h' (fun a1 x1 r1 => ?_)
        exact loop (fun x hx => jx_l (hC x a1 hx)) N (l2, a1, l3, x1) ⟨rfl, rfl, r1⟩
      have fin : jx (bt (some ((.inr 0 : Sum Nat Int32), v)) kC) (bn (F_is N 230 u) fun r_15 u_14 => if r_15 = (0 : Int32) then (bn (F_emit N 28 0 0 u_14) fun r_18 u_17 => LP_cases_65 N (FS_ N d') R14 N (l2, r_18, l3, u_17)) else (LP_cases_28 N (FS_ N d') R14 M' (l2, l3, u_14))) A := by
        rw [bt_inr]
        exact ref (fun x l4 hx => kk i v x c l2 l4 hD hi h hx)
      unfold B_X3_labels_2
      by_cases y : (1500 : Int32) ≤ Int32.ofNat k
      · rw [if_pos y]
        exact fin
      · rw [if_neg y, bt_bc]
        refine k2_is h (fun _ => ?_) (fun y => absurd t1 y)
        rw [if_neg (by decide)]
        exact fin
  | succ q ih =>
    rintro i k v u e c M M' l2 l3 ⟨z, hD⟩ hi hki h h' kk
    have z : tyF v0 i = 44 := z
    obtain ⟨k1, p1, p2⟩ := oS_r hD
    have hil := hV.lt hi (by rw [z]; exact nEnd (by decide) (by decide) (by decide))
    have ki := ofN_i (k := k) (by omega)
    have hgt := pg_Lab _ _ (show dLab (tyF v0) (i + 1) (.inr k1) from p1)
    cases M with
    | zero => exact jx_n1 rfl
    | succ M =>
      show jx (bt (B_X3_labels_2 N (LP_X3_labels_2 N M) (Int32.ofNat k) v) kC) _ _
      refine jx_r (y_is hV.2.1 (t := 44) (by decide +kernel) h' hi (fun _ => ?_) (fun y => absurd z y))
      rw [if_neg (by decide)]
      refine jx_l ?_
      cases M' with
      | zero => exact jx_n2 rfl
      | succ M' =>
        show jx _ (B_cases_28 N (FS_ N d') R14 (LP_cases_28 N (FS_ N d') R14 M') l2 l3 u) _
        refine j_lab1 hV h14 (by omega) (by rw [z]; decide) p1 hil h h' ?_
        intro w2 x2 c2 g2 rr2 hk1
        exact ih k1 (k + 1) w2 x2 e c2 M M' l2 l3 p2 hk1 (by omega) g2 rr2 kk
end St5
