/-! The second pass: an instance runs. -/
/-- behind the arguments: the class before the ; the reference behind it -/
def RNq (v0 : CSt) (u0 : RSt) (n j o l : Nat) (e : E5) : Int32 → CSt → Int32 → RSt → Prop := fun _ w _ x => ∃ e' c', CE v0 w j l e' ∧ RE u0 x (j + 1) o l c' ∧ sfe e e' ∧ j < n
section Rn
variable {v0 v : CSt} {u0 u : RSt} {i j o l n N m d d' t : Nat} {e : E5} {c : R5} {X : Rl} {b : Prop} {p lb l1 l3 l4 l5 : Int32} {R : Nat × Int32 × Int32 × Int32 × CSt → Option (Sum Nat Int32 × CSt)} {R' : Int32 × Int32 × Int32 × Int32 × Int32 × RSt → Option (Int32 × RSt)}
theorem j_rn1 {A : Int32 → CSt → Int32 → RSt → Prop} {k : Nat} (hV : EV2 v0 u0 n) (ho : o < 24) (hX : HX2 N v0 u0 n o l X) (hPA : PA v0 u0 m l4.toNatClampNeg) (h_R_117 : ∀ a, KP (R' a) a.2.2.2.2.2) (hD : X i (.inr j)) (hi : i ≤ n) (hk : k ≤ 1500) (h : CE v0 v i l e) (h' : RE u0 u i (o + 1) l c) (h0 : 0 ≤ e.1.toInt) (h1 : e.1.toInt ≤ 10 * o + 10)
    (kk : ∀ w x e' c', CE v0 w j l e' → RE u0 x j (o + 1) l c' → sfe e e' → j ≤ n → jx (R (m, lb, p, Int32.ofNat k + 1, w)) (B_runs_275 N R' l1 l3 l4 (Int32.ofNat k) x) A) :
    jx (B_X8_arguments_49 N (FTE_ N d) R m lb p (Int32.ofNat k) v) (B_runs_117 N R' l1 l3 l4 (Int32.ofNat k) 1 u) A := by
  have hj := hV.2.2.2.2.1
  obtain ⟨rm, a1, a2, a3⟩ := hPA.2.2.2 k hk
  have ki := ofN_i (k := k) (by omega)
  have kc : ∀ {w : CSt} {e' : E5} {Q : Sum Nat Int32 → CSt → Prop} {f : Nat → CSt → Option (Sum Nat Int32 × CSt)}, CE v0 w j l e' → pq (f rm w) Q → pq (bc (F_X6_local N (cR w 3) m (Int32.ofNat k) w) f) Q := by
    intro w e' Q f g hf
    rw [g.rf]
    refine pq_bc (pq_m (a1 N w _ _ _ g) (fun q w2 hq => ?_))
    rw [hq.1, hq.2]
    exact hf
  unfold B_X8_arguments_49 B_runs_117
  refine k2_here h ?_
  refine jx_r ?_
  rw [if_neg (show ¬ (1 : Int32) = 0 by decide), if_neg (by rw [h'.sc (by decide)]; exact hj), if_pos h'.2.1]
  refine pp_rd ?_
  rw [h'.row (by decide), ← hPA.1]
  by_cases z : (k : Int) < (mI v0 m 11).toInt
  · obtain ⟨kd2, ek⟩ := a3 z
    rw [if_neg (fun q => by have := Int32.le_iff_toInt_le.mp q; omega)]
    unfold B_runs_153
    rw [if_neg (by decide)]
    refine pp_rd ?_
    rw [h'.row (k := 28) (by decide), h'.sc (k := 56) (by decide)]
    unfold B_runs_183
    rw [if_neg (by decide)]
    refine pp_rd (pp_rd (y_emit h' (fun _ x1 r1 => ?_)))
    unfold B_runs_215
    refine y_rA r1 (by decide) (jx_l ?_)
    refine jx_bt (hX ho d 400 i j v x1 e c hD hi h r1 h0 (by omega)) ?_ (fun _ _ => by repeat' (first | exact KP_some kp_rf | with_reducible refine KP_bn ?_ (fun _ _ => ?_) | with_reducible refine KP_if ?_ ?_ | with_reducible refine KP_rd (fun _ => ?_) | with_reducible refine KP_zr ?_ | (with_reducible refine KP_pu2 ?_ ?_; first | exact ks_sI (by decide) kp_rf | exact ks_sL kp_rf | exact ks_sA (by decide) kp_rf | exact ks_sB (by decide) kp_rf) | (with_reducible refine KP_wr2 ?_ ?_; first | exact ks_sA (by decide) kp_rf | exact ks_sB (by decide) kp_rf) | with_reducible exact h_ro _ _ _ _ | with_reducible exact sk_F_is | with_reducible exact sk_F_take | with_reducible exact sk_F_emit | with_reducible exact sk_F_wrong | with_reducible exact sk_F_cost | with_reducible exact sk_F_stuck | with_reducible exact sk_F_ends | with_reducible exact sk_F_begins | with_reducible exact sk_F_opens | with_reducible exact sk_F_has | with_reducible exact sk_F_isNumber | with_reducible exact sk_F_isNext | with_reducible exact sk_F_push | with_reducible exact sk_F_lead | with_reducible exact sk_F_here | with_reducible exact sk_F_kind | with_reducible exact sk_F_isKind | with_reducible exact sk_F_own | with_reducible exact sk_F_constant | with_reducible exact sk_F_bounded | with_reducible exact sk_F_joined | with_reducible exact sk_F_strength | with_reducible exact sk_F_leadAll | with_reducible exact sk_F_loop | with_reducible exact sk_F_label | with_reducible exact sk_F_leaves | with_reducible exact sk_F_telling | with_reducible exact sk_F_local | with_reducible exact sk_F_addSlot | with_reducible exact sk_F_addVariable | with_reducible exact sk_F_isTooWide | with_reducible exact sk_F_named | with_reducible exact sk_F_slotOf | with_reducible exact sk_F_bad | with_reducible exact sk_G_expression | with_reducible exact sk_G_spot | with_reducible exact sk_G_body | with_reducible exact sk_G_stat | (with_reducible refine sk_B_runs_275 ?_ <;> assumption) | (with_reducible refine sk_B_runs_215 ?_ <;> assumption) | (with_reducible refine sk_B_runs_183 ?_ <;> assumption) | (with_reducible refine sk_B_runs_153 ?_ <;> assumption) | (with_reducible refine sk_B_runs_152 ?_ <;> assumption) | with_reducible exact sk_B_runs_344 | with_reducible exact sk_B_runs_329 | (with_reducible refine sk_B_runs_117 ?_ <;> assumption) | with_reducible exact sk_LP_runs_117 _ _ | with_reducible exact sk_B_runs_115 | with_reducible exact sk_B_runs_114 | with_reducible exact sk_B_runs_81 | with_reducible exact sk_B_runs_80 | with_reducible exact sk_B_runs_27 | with_reducible exact sk_B_runs_0 | with_reducible exact sk_F_runs))
    rintro b w r x ⟨⟨rfl, kd, e', c', g, r', s, cn⟩, hjn⟩
    rw [if_neg (show ¬ (1 : Int32) = 0 by decide)]
    obtain ⟨rr, hb01, tC, tR⟩ := tw_same (N := N) kd kd2 g r' cn
    refine jx_r (pp_rd ?_)
    rw [r'.row (k := 20) (by decide), ← ek]
    refine tR (jx_l ?_)
    refine pq_ok (fun _ => kc g (pq_ok (fun _ => ?_)))
    rw [g.nm, if_pos (a2.mpr z), g.nm]
    refine tC ?_
    rcases hb01 with hr | hr
    · subst hr
      rw [if_pos rfl]
      refine jx_r (y_ok rfl (pp_rd (y_emit r' (fun _ x3 r3 => jx_l ?_))))
      exact k2_109 g (fun w2 g2 => kk w2 x3 e' c' g2 r3 s hjn)
    · subst hr
      rw [if_neg (by decide), hV.pl hi]
      exact jx_ref (y_bad hj r' (by decide) (by decide) (fun _ _ => by repeat' (first | exact KP_some kp_rf | with_reducible refine KP_bn ?_ (fun _ _ => ?_) | with_reducible refine KP_if ?_ ?_ | with_reducible refine KP_rd (fun _ => ?_) | with_reducible refine KP_zr ?_ | (with_reducible refine KP_pu2 ?_ ?_; first | exact ks_sI (by decide) kp_rf | exact ks_sL kp_rf | exact ks_sA (by decide) kp_rf | exact ks_sB (by decide) kp_rf) | (with_reducible refine KP_wr2 ?_ ?_; first | exact ks_sA (by decide) kp_rf | exact ks_sB (by decide) kp_rf) | with_reducible exact h_ro _ _ _ _ | with_reducible exact sk_F_is | with_reducible exact sk_F_take | with_reducible exact sk_F_emit | with_reducible exact sk_F_wrong | with_reducible exact sk_F_cost | with_reducible exact sk_F_stuck | with_reducible exact sk_F_ends | with_reducible exact sk_F_begins | with_reducible exact sk_F_opens | with_reducible exact sk_F_has | with_reducible exact sk_F_isNumber | with_reducible exact sk_F_isNext | with_reducible exact sk_F_push | with_reducible exact sk_F_lead | with_reducible exact sk_F_here | with_reducible exact sk_F_kind | with_reducible exact sk_F_isKind | with_reducible exact sk_F_own | with_reducible exact sk_F_constant | with_reducible exact sk_F_bounded | with_reducible exact sk_F_joined | with_reducible exact sk_F_strength | with_reducible exact sk_F_leadAll | with_reducible exact sk_F_loop | with_reducible exact sk_F_label | with_reducible exact sk_F_leaves | with_reducible exact sk_F_telling | with_reducible exact sk_F_local | with_reducible exact sk_F_addSlot | with_reducible exact sk_F_addVariable | with_reducible exact sk_F_isTooWide | with_reducible exact sk_F_named | with_reducible exact sk_F_slotOf | with_reducible exact sk_F_bad | with_reducible exact sk_G_expression | with_reducible exact sk_G_spot | with_reducible exact sk_G_body | with_reducible exact sk_G_stat | (with_reducible refine sk_B_runs_275 ?_ <;> assumption) | (with_reducible refine sk_B_runs_215 ?_ <;> assumption) | (with_reducible refine sk_B_runs_183 ?_ <;> assumption) | (with_reducible refine sk_B_runs_153 ?_ <;> assumption) | (with_reducible refine sk_B_runs_152 ?_ <;> assumption) | with_reducible exact sk_B_runs_344 | with_reducible exact sk_B_runs_329 | (with_reducible refine sk_B_runs_117 ?_ <;> assumption) | with_reducible exact sk_LP_runs_117 _ _ | with_reducible exact sk_B_runs_115 | with_reducible exact sk_B_runs_114 | with_reducible exact sk_B_runs_81 | with_reducible exact sk_B_runs_80 | with_reducible exact sk_B_runs_27 | with_reducible exact sk_B_runs_0 | with_reducible exact sk_F_runs)))
  · rw [if_pos (Int32.le_iff_toInt_le.mpr (by omega))]
    unfold B_runs_152 B_runs_153
    rw [if_pos rfl]
    unfold B_runs_183
    rw [if_pos rfl]
    unfold B_runs_215
    refine y_rA h' (by decide) (jx_l ?_)
    refine jx_bt (hX ho d 400 i j v u e c hD hi h h' h0 (by omega)) ?_ (fun _ _ => by repeat' (first | exact KP_some kp_rf | with_reducible refine KP_bn ?_ (fun _ _ => ?_) | with_reducible refine KP_if ?_ ?_ | with_reducible refine KP_rd (fun _ => ?_) | with_reducible refine KP_zr ?_ | (with_reducible refine KP_pu2 ?_ ?_; first | exact ks_sI (by decide) kp_rf | exact ks_sL kp_rf | exact ks_sA (by decide) kp_rf | exact ks_sB (by decide) kp_rf) | (with_reducible refine KP_wr2 ?_ ?_; first | exact ks_sA (by decide) kp_rf | exact ks_sB (by decide) kp_rf) | with_reducible exact h_ro _ _ _ _ | with_reducible exact sk_F_is | with_reducible exact sk_F_take | with_reducible exact sk_F_emit | with_reducible exact sk_F_wrong | with_reducible exact sk_F_cost | with_reducible exact sk_F_stuck | with_reducible exact sk_F_ends | with_reducible exact sk_F_begins | with_reducible exact sk_F_opens | with_reducible exact sk_F_has | with_reducible exact sk_F_isNumber | with_reducible exact sk_F_isNext | with_reducible exact sk_F_push | with_reducible exact sk_F_lead | with_reducible exact sk_F_here | with_reducible exact sk_F_kind | with_reducible exact sk_F_isKind | with_reducible exact sk_F_own | with_reducible exact sk_F_constant | with_reducible exact sk_F_bounded | with_reducible exact sk_F_joined | with_reducible exact sk_F_strength | with_reducible exact sk_F_leadAll | with_reducible exact sk_F_loop | with_reducible exact sk_F_label | with_reducible exact sk_F_leaves | with_reducible exact sk_F_telling | with_reducible exact sk_F_local | with_reducible exact sk_F_addSlot | with_reducible exact sk_F_addVariable | with_reducible exact sk_F_isTooWide | with_reducible exact sk_F_named | with_reducible exact sk_F_slotOf | with_reducible exact sk_F_bad | with_reducible exact sk_G_expression | with_reducible exact sk_G_spot | with_reducible exact sk_G_body | with_reducible exact sk_G_stat | (with_reducible refine sk_B_runs_275 ?_ <;> assumption) | (with_reducible refine sk_B_runs_215 ?_ <;> assumption) | (with_reducible refine sk_B_runs_183 ?_ <;> assumption) | (with_reducible refine sk_B_runs_153 ?_ <;> assumption) | (with_reducible refine sk_B_runs_152 ?_ <;> assumption) | with_reducible exact sk_B_runs_344 | with_reducible exact sk_B_runs_329 | (with_reducible refine sk_B_runs_117 ?_ <;> assumption) | with_reducible exact sk_LP_runs_117 _ _ | with_reducible exact sk_B_runs_115 | with_reducible exact sk_B_runs_114 | with_reducible exact sk_B_runs_81 | with_reducible exact sk_B_runs_80 | with_reducible exact sk_B_runs_27 | with_reducible exact sk_B_runs_0 | with_reducible exact sk_F_runs))
    rintro b w r x ⟨⟨rfl, kd, e', c', g, r', s, cn⟩, hjn⟩
    rw [if_pos (show (0 : Int32) = 0 from rfl)]
    refine pq_ok (fun _ => kc g (pq_ok (fun _ => ?_)))
    rw [g.nm, if_neg (fun q => z (a2.mp q))]
    exact k2_109 g (fun w2 g2 => kk w2 x e' c' g2 r' s hjn)
theorem j_rnE {ro : Nat → Nat → Int32 → Int32 → CSt → Option (Sum Nat Int32 × CSt)} {k : Nat} (hV : EV2 v0 u0 n) (ho : o < 24) (hPA : PA v0 u0 m l4.toNatClampNeg) (hp : p = l1) (hi : i < n) (ht : tyF v0 i = 41) (ht2 : tyF v0 (i + 1) = 59) (h : CE v0 v i l e) (h' : RE u0 u i (o + 1) l c) : jx (B_X8_arguments_153 N ro m p (Int32.ofNat k) v) (B_runs_117 N R' l1 l3 l4 (Int32.ofNat k) 0 u) (RNq v0 u0 n (i + 1) o l e) := by
  have hj := hV.2.2.2.2.1
  have hi1 : i + 1 < n := hV.lt (i := i + 1) hi (by rw [ht2]; exact nEnd (by decide) (by decide) (by decide))
  subst hp
  unfold B_X8_arguments_153 B_runs_117
  refine k2_next hV.1 h hi (fun w1 g1 => ?_)
  rw [if_pos rfl, g1.nm]
  refine jx_r (y_ends hV.2.1 (t := 41) (by decide +kernel) h' hi ht (by omega) (fun x1 r1 => ?_))
  rw [if_neg (by rw [r1.sc (by decide)]; exact hj), if_pos r1.2.1]
  refine pp_rd ?_
  rw [r1.row (by decide), ← hPA.1]
  unfold B_runs_329
  by_cases z : Int32.ofNat k = mI v0 m 11
  · rw [if_pos z, if_pos z]
    refine y_ok rfl (y_emit r1 (fun _ x2 r2 => ?_))
    unfold B_runs_344
    exact y_take hV.2.1 (t := 59) (by decide +kernel) r2 hi1 ht2 (fun x3 r3 => pp_some (pq_some (Or.inr ⟨_, rfl, e, c, g1, r3, sfe_rf, hi1⟩)))
  · rw [if_neg z, if_neg z]
    exact jx_l (jx_ref (y_bad hj r1 (by decide) (by decide) (fun _ _ => by repeat' (first | exact KP_some kp_rf | with_reducible refine KP_bn ?_ (fun _ _ => ?_) | with_reducible refine KP_if ?_ ?_ | with_reducible refine KP_rd (fun _ => ?_) | with_reducible refine KP_zr ?_ | (with_reducible refine KP_pu2 ?_ ?_; first | exact ks_sI (by decide) kp_rf | exact ks_sL kp_rf | exact ks_sA (by decide) kp_rf | exact ks_sB (by decide) kp_rf) | (with_reducible refine KP_wr2 ?_ ?_; first | exact ks_sA (by decide) kp_rf | exact ks_sB (by decide) kp_rf) | with_reducible exact h_ro _ _ _ _ | with_reducible exact sk_F_is | with_reducible exact sk_F_take | with_reducible exact sk_F_emit | with_reducible exact sk_F_wrong | with_reducible exact sk_F_cost | with_reducible exact sk_F_stuck | with_reducible exact sk_F_ends | with_reducible exact sk_F_begins | with_reducible exact sk_F_opens | with_reducible exact sk_F_has | with_reducible exact sk_F_isNumber | with_reducible exact sk_F_isNext | with_reducible exact sk_F_push | with_reducible exact sk_F_lead | with_reducible exact sk_F_here | with_reducible exact sk_F_kind | with_reducible exact sk_F_isKind | with_reducible exact sk_F_own | with_reducible exact sk_F_constant | with_reducible exact sk_F_bounded | with_reducible exact sk_F_joined | with_reducible exact sk_F_strength | with_reducible exact sk_F_leadAll | with_reducible exact sk_F_loop | with_reducible exact sk_F_label | with_reducible exact sk_F_leaves | with_reducible exact sk_F_telling | with_reducible exact sk_F_local | with_reducible exact sk_F_addSlot | with_reducible exact sk_F_addVariable | with_reducible exact sk_F_isTooWide | with_reducible exact sk_F_named | with_reducible exact sk_F_slotOf | with_reducible exact sk_F_bad | with_reducible exact sk_G_expression | with_reducible exact sk_G_spot | with_reducible exact sk_G_body | with_reducible exact sk_G_stat | (with_reducible refine sk_B_runs_275 ?_ <;> assumption) | (with_reducible refine sk_B_runs_215 ?_ <;> assumption) | (with_reducible refine sk_B_runs_183 ?_ <;> assumption) | (with_reducible refine sk_B_runs_153 ?_ <;> assumption) | (with_reducible refine sk_B_runs_152 ?_ <;> assumption) | with_reducible exact sk_B_runs_344 | with_reducible exact sk_B_runs_329 | (with_reducible refine sk_B_runs_117 ?_ <;> assumption) | with_reducible exact sk_LP_runs_117 _ _ | with_reducible exact sk_B_runs_115 | with_reducible exact sk_B_runs_114 | with_reducible exact sk_B_runs_81 | with_reducible exact sk_B_runs_80 | with_reducible exact sk_B_runs_27 | with_reducible exact sk_B_runs_0 | with_reducible exact sk_F_runs))))
theorem lp_runs {M : Nat} {l5 s0 : Int32} : LP_runs_117 N (M + 1) (l1, l3, l4, l5, s0, u) = B_runs_117 N (LP_runs_117 N M) l1 l3 l4 l5 s0 u := rfl
theorem j_rnT (hV : EV2 v0 u0 n) (ho : o < 24) (hX : HX2 N v0 u0 n o l X) (hPg : Pg X) (hPA : PA v0 u0 m l4.toNatClampNeg) (hp : p = l1) :
    ∀ q i j k v u e c M M' l5, oWn (fun i => tyF v0 i = 44) (oN X) (oT (tyF v0) 41) q i (.inr j) → tyF v0 j = 59 → i ≤ n → k ≤ i → 1 ≤ k → l5 + 1 = Int32.ofNat k → CE v0 v i l e → RE u0 u i (o + 1) l c → 0 ≤ e.1.toInt → e.1.toInt ≤ 10 * o + 10 → jx (LP_X8_arguments_17 N (FTE_ N d) M (m, lb, p, Int32.ofNat k, v)) (B_runs_275 N (LP_runs_117 N M') l1 l3 l4 l5 u) (RNq v0 u0 n j o l e) := by
  have hn2 := hV.2.1.2.2
  have e15 : (1500 : Int32).toInt = 1500 := by decide
  have e0 : (0 : Int32).toInt = 0 := by decide
  intro q
  induction q with
  | zero =>
    rintro i j k v u e c M M' l5 ⟨z, hD⟩ t59 hi hki hk1 h5 h h' h0 h1
    obtain ⟨t1, rfl⟩ := oT_r hD
    have hil := hV.lt hi (by rw [t1]; exact nEnd (by decide) (by decide) (by decide))
    cases M with
    | zero => exact jx_n1 rfl
    | succ M =>
      show jx (B_X8_arguments_17 N (FTE_ N d) (LP_X8_arguments_17 N (FTE_ N d) M) m lb p (Int32.ofNat k) v) _ _
      unfold B_runs_275
      refine jx_r (y_has hV.2.1 (t := 44) (by decide +kernel) (nEnd (by decide) (by decide) (by decide)) h' hi (fun y => absurd y z) (fun _ => ?_))
      rw [h5]
      refine jx_l ?_
      cases M' with
      | zero => exact jx_n2 rfl
      | succ M' =>
        rw [lp_runs]
        have fin := j_rnE (N := N) (ro := FTE_ N d) (R' := LP_runs_117 N M') (l3 := l3) (k := k) hV ho hPA hp hil t1 t59 h h'
        unfold B_X8_arguments_17
        exact pq_if (fun _ => fin) (fun _ => k2_if h (fun _ => fin) (fun y => absurd t1 y))
  | succ q ih =>
    rintro i j k v u e c M M' l5 ⟨z, hD⟩ t59 hi hki hk1 h5 h h' h0 h1
    have z : tyF v0 i = 44 := z
    obtain ⟨k1, p1, p2⟩ := oS_r hD
    have hil := hV.lt hi (by rw [z]; exact nEnd (by decide) (by decide) (by decide))
    have ki := ofN_i (k := k) (by omega)
    cases M with
    | zero => exact jx_n1 rfl
    | succ M =>
      show jx (B_X8_arguments_17 N (FTE_ N d) (LP_X8_arguments_17 N (FTE_ N d) M) m lb p (Int32.ofNat k) v) _ _
      unfold B_runs_275
      refine jx_r (y_has hV.2.1 (t := 44) (by decide +kernel) (nEnd (by decide) (by decide) (by decide)) h' hi (fun _ _ x1 r1 => ?_) (fun y => absurd z y))
      rw [h5]
      refine jx_l ?_
      cases M' with
      | zero => exact jx_n2 rfl
      | succ M' =>
        rw [lp_runs]
        unfold B_X8_arguments_17
        rw [if_neg (fun y => by have := Int32.le_iff_toInt_le.mp y; rw [e15] at this; omega)]
        refine k2_if h (fun y => by rw [z] at y; exact absurd y (by decide)) (fun _ => ?_)
        rw [if_neg (fun y => by have := Int32.le_iff_toInt_le.mp y; rw [e0] at this; omega)]
        refine k2_next hV.1 h hil (fun w1 g1 => ?_)
        have hgt := hPg _ _ p1
        refine j_rn1 hV ho hX hPA (sk_LP_runs_117 M') p1 hil (by omega) g1 r1 h0 h1 ?_
        intro w2 x2 e2 c2 g2 r2 s2 hk1n
        rw [ofN1 (by omega)]
        refine jx_m (ih k1 j (k + 1) w2 x2 e2 c2 M M' (Int32.ofNat k) p2 t59 hk1n (by omega) (by omega) (ofN1 (by omega)) g2 r2 (sfe_nn s2 h0) (sfe_lo s2 h1)) ?_
        rintro b w r x ⟨e3, c3, a2, a3, a4, a5⟩
        exact ⟨e3, c3, a2, a3, sfe_tr s2 a4, a5⟩
theorem j_rnS {M : Nat} (hV : EV2 v0 u0 n) (ho : o < 24) (hX : HX2 N v0 u0 n o l X) (hPg : Pg X) (hPA : PA v0 u0 m l4.toNatClampNeg) (hp : p = l1) (hD : oF (fun i => tyF v0 i = 41) (dAl (tyF v0) X) (oS X (dAl (tyF v0) X)) i (.inr j)) (t59 : tyF v0 j = 59) (hi : i ≤ n) (h : CE v0 v i l e) (h' : RE u0 u i (o + 1) l c) (h0 : 0 ≤ e.1.toInt) (h1 : e.1.toInt ≤ 10 * o + 10) : jx (LP_X8_arguments_17 N (FTE_ N d) M (m, lb, p, 0, v)) (bn (F_is N 224 u) fun r_46 u_45 => if r_46 = (0 : Int32) then (B_runs_115 N l1 l3 l4 0 1 u_45) else (B_runs_114 N l1 l3 l4 0 u_45)) (RNq v0 u0 n j o l e) := by
  cases M with
  | zero => exact jx_n1 rfl
  | succ M =>
    show jx (B_X8_arguments_17 N (FTE_ N d) (LP_X8_arguments_17 N (FTE_ N d) M) m lb p 0 v) _ _
    rcases oF_r hD with ⟨z, q⟩ | ⟨z, q⟩
    · have hil := hV.lt hi (by rw [z]; exact nEnd (by decide) (by decide) (by decide))
      rcases oW_r q with ⟨-, q2⟩ | ⟨q1, -⟩
      · obtain ⟨-, rfl⟩ := oT_r q2
        refine jx_r (y_is hV.2.1 (t := 41) (by decide +kernel) h' hi (fun _ => ?_) (fun y => absurd z y))
        rw [if_neg (by decide)]
        refine jx_l ?_
        have key : ∀ M', jx (B_X8_arguments_17 N (FTE_ N d) (LP_X8_arguments_17 N (FTE_ N d) M) m lb p (Int32.ofNat 0) v) (LP_runs_117 N M' (l1, l3, l4, Int32.ofNat 0, 0, u)) (RNq v0 u0 n (i + 1) o l e) := by
          intro M'
          cases M' with
          | zero => exact jx_n2 rfl
          | succ M' =>
            rw [lp_runs]
            have fin := j_rnE (N := N) (ro := FTE_ N d) (R' := LP_runs_117 N M') (l3 := l3) (k := 0) hV ho hPA hp hil z t59 h h'
            unfold B_X8_arguments_17
            exact pq_if (fun _ => fin) (fun _ => k2_if h (fun _ => fin) (fun y => absurd z y))
        exact key N
      · rw [z] at q1
        exact absurd q1 (by decide)
    · obtain ⟨k1, p1, p2⟩ := oS_r q
      obtain ⟨q2, p2⟩ := p2
      refine jx_r (y_is hV.2.1 (t := 41) (by decide +kernel) h' hi (fun y => absurd y z) (fun _ => ?_))
      rw [if_pos rfl]
      refine jx_l ?_
      have key : ∀ M', jx (B_X8_arguments_17 N (FTE_ N d) (LP_X8_arguments_17 N (FTE_ N d) M) m lb p (Int32.ofNat 0) v) (LP_runs_117 N M' (l1, l3, l4, Int32.ofNat 0, 1, u)) (RNq v0 u0 n j o l e) := by
        intro M'
        cases M' with
        | zero => exact jx_n2 rfl
        | succ M' =>
          rw [lp_runs]
          unfold B_X8_arguments_17
          rw [if_neg (by decide)]
          refine k2_if h (fun y => absurd y z) (fun _ => ?_)
          rw [if_pos (by decide)]
          have hgt := hPg _ _ p1
          refine j_rn1 hV ho hX hPA (sk_LP_runs_117 M') p1 hi (by omega) h h' h0 h1 ?_
          intro w2 x2 e2 c2 g2 r2 s2 hk1n
          rw [ofN1 (by omega)]
          refine jx_m (j_rnT hV ho hX hPg hPA hp q2 k1 j (0 + 1) w2 x2 e2 c2 M M' (Int32.ofNat 0) p2 t59 hk1n (by omega) (by omega) (ofN1 (by omega)) g2 r2 (sfe_nn s2 h0) (sfe_lo s2 h1)) ?_
          rintro b w r x ⟨e3, c3, a2, a3, a4, a5⟩
          exact ⟨e3, c3, a2, a3, sfe_tr s2 a4, a5⟩
      exact key N
/-- an instance runs -/
theorem j_runs (hV : EV2 v0 u0 n) (ho : b → o < 24) (hX : HX2 N v0 u0 n o l X) (hPg : Pg X) (hD : oS (dArg (tyF v0) b X) (oT (tyF v0) 59) (i + 1) (.inr j)) (h : CE v0 v i l e) (h' : RE u0 u i o l c) (hi : i < n) (ht : tyF v0 i = 128) (h0 : e.1 = 0) (hp : p = u0.2.2.1 3 i) : jx (F_X3_instanceCall N p v) (F_runs N u) (SJq v0 u0 n j o l) := by
  have hn2 := hV.2.1.2.2
  have hj := hV.2.2.2.2.1
  obtain ⟨a0, a1⟩ := e0_0 h0
  obtain ⟨k2, p0, p5⟩ := oS_r hD
  obtain ⟨t59, rfl⟩ := oT_r p5
  obtain ⟨k1, p1, p2⟩ := oS_r p0
  obtain ⟨t1, pb, rfl⟩ := oP_r p1
  have hi1 : i + 1 < n := hV.lt (i := i + 1) hi (by rw [t1]; exact nEnd (by decide) (by decide) (by decide))
  have ho2 := ho pb
  obtain ⟨m, s, g, hm, hK, hM⟩ := hV.2.2.2.2.2.2 i hi ht
  subst hp
  unfold F_X3_instanceCall B_X3_instanceCall_0 F_runs B_runs_0
  refine k2_known hK h (pq_ok (fun _ => ?_))
  rw [h.nm]
  refine jx_r (y_rA h' (by decide) (y_own hK h' (jx_l ?_)))
  rcases MN_1 hM with ⟨m1, m2, m3⟩ | ⟨m1, m2⟩
  · rw [if_pos m1, if_neg m2]
    obtain ⟨mb, b1, b2, b3, b4⟩ := m3
    unfold B_X3_instanceCall_25 B_runs_27
    refine pq_ok (fun _ => k2_cost h (fun w1 g1 => pq_ok (fun _ => ?_)))
    rw [g1.nm, g1.rf, hV.2.2.2.2.2.1]
    refine pq_bc (pq_m (b2 N w1 _ _ _ g1) (fun q w3 hq => ?_))
    rw [hq.1, hq.2]
    refine pq_ok (fun _ => ?_)
    refine jx_r (y_ok rfl (y_cost h' (fun x1 r1 => y_adv r1 (by omega) (fun x2 r2 => ?_))))
    rw [if_neg (by rw [r2.sc (by decide)]; exact hj), if_pos r2.2.1]
    refine pp_rd ?_
    rw [r2.row (by decide), r2.sc (k := 56) (by decide)]
    unfold B_runs_81
    refine y_begins hV.2.1 (t := 40) (by decide +kernel) r2 hi1 t1 ho2 (fun x3 r3 => ?_)
    rw [if_pos r3.2.1]
    refine jx_l (jx_btp (A := RNq v0 u0 n k2 o l e) ?_ ?_)
    · show jx (F_X8_arguments N (FTE_ N 299) mb _ _ w1) _ _
      unfold F_X8_arguments B_X8_arguments_0
      refine k2_next hV.1 g1 hi (fun w2 g2 => k2_next hV.1 g2 hi1 (fun w4 g4 => ?_))
      exact j_rnS hV ho2 hX hPg b4 rfl p2 t59 hi1 g4 r3 a0 (by omega)
    · rintro b5 w5 q5 x5 ⟨e', c', g5, r5, s5, hk⟩
      exact pq_ok (fun _ => k2_step g5 (fun _ w6 g6 => k2_next hV.1 g6 hk (fun w7 g7 => pq_some (Or.inr ⟨_, rfl, e', c', g7, r5, sfe_0 s5 h0, hk⟩))))
  · rw [if_neg m1, if_pos m2]
    refine jx_ref ?_
    unfold B_runs_27
    exact y_bad hj h' (by decide) (by decide) (fun _ _ => by repeat' (first | exact KP_some kp_rf | with_reducible refine KP_bn ?_ (fun _ _ => ?_) | with_reducible refine KP_if ?_ ?_ | with_reducible refine KP_rd (fun _ => ?_) | with_reducible refine KP_zr ?_ | (with_reducible refine KP_pu2 ?_ ?_; first | exact ks_sI (by decide) kp_rf | exact ks_sL kp_rf | exact ks_sA (by decide) kp_rf | exact ks_sB (by decide) kp_rf) | (with_reducible refine KP_wr2 ?_ ?_; first | exact ks_sA (by decide) kp_rf | exact ks_sB (by decide) kp_rf) | with_reducible exact h_ro _ _ _ _ | with_reducible exact sk_F_is | with_reducible exact sk_F_take | with_reducible exact sk_F_emit | with_reducible exact sk_F_wrong | with_reducible exact sk_F_cost | with_reducible exact sk_F_stuck | with_reducible exact sk_F_ends | with_reducible exact sk_F_begins | with_reducible exact sk_F_opens | with_reducible exact sk_F_has | with_reducible exact sk_F_isNumber | with_reducible exact sk_F_isNext | with_reducible exact sk_F_push | with_reducible exact sk_F_lead | with_reducible exact sk_F_here | with_reducible exact sk_F_kind | with_reducible exact sk_F_isKind | with_reducible exact sk_F_own | with_reducible exact sk_F_constant | with_reducible exact sk_F_bounded | with_reducible exact sk_F_joined | with_reducible exact sk_F_strength | with_reducible exact sk_F_leadAll | with_reducible exact sk_F_loop | with_reducible exact sk_F_label | with_reducible exact sk_F_leaves | with_reducible exact sk_F_telling | with_reducible exact sk_F_local | with_reducible exact sk_F_addSlot | with_reducible exact sk_F_addVariable | with_reducible exact sk_F_isTooWide | with_reducible exact sk_F_named | with_reducible exact sk_F_slotOf | with_reducible exact sk_F_bad | with_reducible exact sk_G_expression | with_reducible exact sk_G_spot | with_reducible exact sk_G_body | with_reducible exact sk_G_stat | (with_reducible refine sk_B_runs_275 ?_ <;> assumption) | (with_reducible refine sk_B_runs_215 ?_ <;> assumption) | (with_reducible refine sk_B_runs_183 ?_ <;> assumption) | (with_reducible refine sk_B_runs_153 ?_ <;> assumption) | (with_reducible refine sk_B_runs_152 ?_ <;> assumption) | with_reducible exact sk_B_runs_344 | with_reducible exact sk_B_runs_329 | (with_reducible refine sk_B_runs_117 ?_ <;> assumption) | with_reducible exact sk_LP_runs_117 _ _ | with_reducible exact sk_B_runs_115 | with_reducible exact sk_B_runs_114 | with_reducible exact sk_B_runs_81 | with_reducible exact sk_B_runs_80 | with_reducible exact sk_B_runs_27 | with_reducible exact sk_B_runs_0 | with_reducible exact sk_F_runs))
end Rn
