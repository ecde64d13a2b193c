/-! The second pass: calls of functions and of the eight. -/
theorem ofN_i {k : Nat} (hk : k ≤ 3000) : (Int32.ofNat k).toInt = k := Int32.toInt_ofNat_of_lt (by omega)
theorem ofN1 {k : Nat} (hk : k ≤ 2000) : Int32.ofNat k + 1 = Int32.ofNat (k + 1) := by
  have e1 : (1 : Int32).toInt = 1 := by decide
  have a1 : (Int32.ofNat k).toInt = k := ofN_i (by omega)
  have a2 : (Int32.ofNat (k + 1)).toInt = (k + 1 : Nat) := ofN_i (by omega)
  exact tI_eq.mpr (by rw [tI_add (by omega) (by omega), e1, a1, a2]; omega)
/-- behind the arguments of a function -/
def AGq (v0 : CSt) (u0 : RSt) (n j o l : Nat) (e : E5) (l4 : Int32) : Int32 → CSt → Int32 → RSt → Prop := fun _ w r x => r = u0.2.2.1 33 l4.toNatClampNeg ∧ ∃ e' c', CE v0 w j l e' ∧ RE u0 x j o l c' ∧ sfe e e' ∧ c'.1 = 0 ∧ j ≤ n
section Cl
variable {v0 v : CSt} {u0 u : RSt} {i j o l n N m d d' t : Nat} {e : E5} {c : R5} {X : Rl} {p lb l1 l2 l3 l4 l5 l6 l7 : Int32} {R : Nat × Int32 × Int32 × Int32 × CSt → Option (Sum Nat Int32 × CSt)} {R' : Int32 × Int32 × Int32 × Int32 × Int32 × Int32 × Int32 × Int32 × RSt → Option (Int32 × RSt)}
theorem sfe_lo {e' : E5} (h : sfe e e') {a : Int} (h1 : e.1.toInt ≤ a) : e'.1.toInt ≤ a := by rw [h.1]; exact h1
theorem sfe_nn {e' : E5} (h : sfe e e') (h1 : 0 ≤ e.1.toInt) : 0 ≤ e'.1.toInt := by rw [h.1]; exact h1
theorem k2_109 {ro : Nat → Nat → Int32 → Int32 → CSt → Option (Sum Nat Int32 × CSt)} {k r7 : Int32} {rm : Nat} {Q : Sum Nat Int32 → CSt → Prop} (h : CE v0 v i l e) (kk : ∀ w, CE v0 w i l e → pq (R (m, lb, p, k + 1, w)) Q) : pq (B_X8_arguments_109 N ro R m lb p k r7 rm v) Q := by
  unfold B_X8_arguments_109 B_X8_arguments_147
  exact pq_if (fun _ => pq_if (fun _ => kk v h) (fun _ => pq_ok (fun _ => k2_step h (fun _ w hw => kk w hw)))) (fun _ => kk v h)
/-- one argument of a function -/
theorem j_arg1 {A : Int32 → CSt → Int32 → RSt → Prop} {k : Nat} (hV : EV2 v0 u0 n) (ho : o < 24) (hX : HX2 N v0 u0 n o l X) (hPA : PA v0 u0 m l4.toNatClampNeg) (hl2 : ¬ l2 = -1) (h_R_123 : ∀ a, KP (R' a) a.2.2.2.2.2.2.2.2) (hD : X i (.inr j)) (hi : i ≤ n) (hk : k ≤ 1500) (h : CE v0 v i l e) (h' : RE u0 u i (o + 1) l c) (h0 : 0 ≤ e.1.toInt) (h1 : e.1.toInt ≤ 10 * o + 10)
    (kk : ∀ w x e' c' l6 l7, CE v0 w j l e' → RE u0 x j (o + 1) l c' → sfe e e' → j ≤ n → jx (R (m, lb, p, Int32.ofNat k + 1, w)) (B_call_222 N (FE_ N d') R' l1 l2 l3 l4 (Int32.ofNat k) l6 l7 x) A) :
    jx (B_X8_arguments_49 N (FTE_ N d) R m lb p (Int32.ofNat k) v) (B_call_123 N (FE_ N d') R' l1 l2 l3 l4 (Int32.ofNat k) l6 l7 1 u) A := by
  have hj := hV.2.2.2.2.1
  have h_ro : ∀ q a b u, KP (FE_ N d' q a b u) u := sk_FE_ d'
  unfold B_X8_arguments_49 B_call_123
  refine k2_here h ?_
  rw [if_neg (by decide)]
  refine jx_r (y_rA h' (by decide) (jx_l ?_))
  refine jx_bt (hX ho d d' i j v u e c hD hi h h' h0 (by omega)) ?_ (fun _ _ => by repeat' (first | exact KP_some kp_rf | with_reducible refine KP_bn ?_ (fun _ _ => ?_) | with_reducible refine KP_if ?_ ?_ | with_reducible refine KP_rd (fun _ => ?_) | with_reducible refine KP_zr ?_ | (with_reducible refine KP_pu2 ?_ ?_; first | exact ks_sI (by decide) kp_rf | exact ks_sL kp_rf | exact ks_sA (by decide) kp_rf | exact ks_sB (by decide) kp_rf) | (with_reducible refine KP_wr2 ?_ ?_; first | exact ks_sA (by decide) kp_rf | exact ks_sB (by decide) kp_rf) | with_reducible exact h_ro _ _ _ _ | with_reducible exact sk_F_is | with_reducible exact sk_F_take | with_reducible exact sk_F_emit | with_reducible exact sk_F_wrong | with_reducible exact sk_F_cost | with_reducible exact sk_F_stuck | with_reducible exact sk_F_ends | with_reducible exact sk_F_begins | with_reducible exact sk_F_opens | with_reducible exact sk_F_has | with_reducible exact sk_F_isNumber | with_reducible exact sk_F_isNext | with_reducible exact sk_F_push | with_reducible exact sk_F_lead | with_reducible exact sk_F_here | with_reducible exact sk_F_kind | with_reducible exact sk_F_isKind | with_reducible exact sk_F_own | with_reducible exact sk_F_constant | with_reducible exact sk_F_bounded | with_reducible exact sk_F_joined | with_reducible exact sk_F_strength | with_reducible exact sk_F_leadAll | with_reducible exact sk_F_loop | with_reducible exact sk_F_label | with_reducible exact sk_F_leaves | with_reducible exact sk_F_telling | with_reducible exact sk_F_local | with_reducible exact sk_F_addSlot | with_reducible exact sk_F_addVariable | with_reducible exact sk_F_isTooWide | with_reducible exact sk_F_named | with_reducible exact sk_F_slotOf | with_reducible exact sk_F_bad | with_reducible exact sk_G_expression | with_reducible exact sk_G_spot | with_reducible exact sk_G_body | with_reducible exact sk_G_stat | (with_reducible refine sk_B_call_222 ?_ ?_ <;> assumption) | (with_reducible refine sk_B_call_206 ?_ ?_ <;> assumption) | (with_reducible refine sk_B_call_288 ?_ <;> assumption) | (with_reducible refine sk_B_call_400 ?_ <;> assumption) | (with_reducible refine sk_B_call_384 ?_ <;> assumption) | (with_reducible refine sk_B_call_379 ?_ <;> assumption) | (with_reducible refine sk_B_call_383 ?_ <;> assumption) | (with_reducible refine sk_B_call_373 ?_ <;> assumption) | (with_reducible refine sk_B_call_347 ?_ <;> assumption) | (with_reducible refine sk_B_call_339 ?_ <;> assumption) | (with_reducible refine sk_B_call_334 ?_ <;> assumption) | (with_reducible refine sk_B_call_123 ?_ ?_ <;> assumption) | (with_reducible refine sk_LP_call_123 ?_ _ _ <;> assumption) | (with_reducible refine sk_B_call_121 ?_ <;> assumption) | (with_reducible refine sk_B_call_120 ?_ <;> assumption) | (with_reducible refine sk_B_call_33 ?_ <;> assumption) | (with_reducible refine sk_B_call_32 ?_ <;> assumption) | (with_reducible refine sk_B_call_0 ?_ <;> assumption) | (with_reducible refine sk_F_call ?_ <;> assumption)))
  rintro b w r x ⟨⟨rfl, kd, e', c', g, r', s, cn⟩, hjn⟩
  obtain ⟨rm, a1, a2, a3⟩ := hPA.2.2.2 k hk
  have h206 : ∀ {C : Option (Sum Nat Int32 × CSt)} {l6 l7 : Int32}, (∀ l6 l7, jx C (B_call_222 N (FE_ N d') R' l1 l2 l3 l4 (Int32.ofNat k) l6 l7 x) A) → jx C (B_call_206 N (FE_ N d') R' l1 l2 l3 l4 (Int32.ofNat k) l6 l7 b x) A := by
    intro C l6 l7 hC
    unfold B_call_206
    by_cases z : Int32.ofNat k = 0
    · rw [if_pos z]; exact hC _ _
    · rw [if_neg z]; exact hC _ _
  have ki := ofN_i (k := k) (by omega)
  have kc : ∀ {Q : Sum Nat Int32 → CSt → Prop} {f : Nat → CSt → Option (Sum Nat Int32 × CSt)}, pq (f rm w) Q → pq (bc (F_X6_local N (cR w 3) m (Int32.ofNat k) w) f) Q := by
    intro Q f hf
    rw [g.rf]
    refine pq_bc (pq_m (a1 N w _ _ _ g) (fun q w2 hq => ?_))
    rw [hq.1, hq.2]
    exact hf
  refine jx_r ?_
  rw [if_neg (by rw [r'.sc (by decide)]; exact hj), if_neg hl2]
  refine pp_rd ?_
  rw [r'.row (by decide), ← hPA.1]
  by_cases z : (k : Int) < (mI v0 m 11).toInt
  · obtain ⟨kd2, ek⟩ := a3 z
    rw [if_neg (fun q => by have := Int32.le_iff_toInt_le.mp q; omega)]
    refine pp_rd (pp_rd ?_)
    rw [r'.row (k := 20) (by decide), r'.row (k := 28) (by decide), r'.sc (k := 56) (by decide), ← ek]
    obtain ⟨rr, hb01, tC, tR⟩ := tw_same (N := N) kd kd2 g r' cn
    refine tR ?_
    rcases hb01 with hr | hr
    · subst hr
      refine y_ok rfl (jx_l (h206 (fun l6 l7 => ?_)))
      refine pq_ok (fun _ => kc (pq_ok (fun _ => ?_)))
      rw [g.nm, if_pos (a2.mpr z), g.nm]
      refine tC ?_
      rw [if_pos rfl]
      exact k2_109 g (fun w2 g2 => kk w2 x e' c' l6 l7 g2 r' s hjn)
    · subst hr
      refine jx_l ?_
      refine pq_ok (fun _ => kc (pq_ok (fun _ => ?_)))
      rw [g.nm, if_pos (a2.mpr z), g.nm]
      refine tC ?_
      rw [if_neg (by decide), hV.pl hi]
      exact jx_ref (y_bad hj r' (by decide) (by decide) (fun _ _ => by repeat' (first | exact KP_some kp_rf | with_reducible refine KP_bn ?_ (fun _ _ => ?_) | with_reducible refine KP_if ?_ ?_ | with_reducible refine KP_rd (fun _ => ?_) | with_reducible refine KP_zr ?_ | (with_reducible refine KP_pu2 ?_ ?_; first | exact ks_sI (by decide) kp_rf | exact ks_sL kp_rf | exact ks_sA (by decide) kp_rf | exact ks_sB (by decide) kp_rf) | (with_reducible refine KP_wr2 ?_ ?_; first | exact ks_sA (by decide) kp_rf | exact ks_sB (by decide) kp_rf) | with_reducible exact h_ro _ _ _ _ | with_reducible exact sk_F_is | with_reducible exact sk_F_take | with_reducible exact sk_F_emit | with_reducible exact sk_F_wrong | with_reducible exact sk_F_cost | with_reducible exact sk_F_stuck | with_reducible exact sk_F_ends | with_reducible exact sk_F_begins | with_reducible exact sk_F_opens | with_reducible exact sk_F_has | with_reducible exact sk_F_isNumber | with_reducible exact sk_F_isNext | with_reducible exact sk_F_push | with_reducible exact sk_F_lead | with_reducible exact sk_F_here | with_reducible exact sk_F_kind | with_reducible exact sk_F_isKind | with_reducible exact sk_F_own | with_reducible exact sk_F_constant | with_reducible exact sk_F_bounded | with_reducible exact sk_F_joined | with_reducible exact sk_F_strength | with_reducible exact sk_F_leadAll | with_reducible exact sk_F_loop | with_reducible exact sk_F_label | with_reducible exact sk_F_leaves | with_reducible exact sk_F_telling | with_reducible exact sk_F_local | with_reducible exact sk_F_addSlot | with_reducible exact sk_F_addVariable | with_reducible exact sk_F_isTooWide | with_reducible exact sk_F_named | with_reducible exact sk_F_slotOf | with_reducible exact sk_F_bad | with_reducible exact sk_G_expression | with_reducible exact sk_G_spot | with_reducible exact sk_G_body | with_reducible exact sk_G_stat | (with_reducible refine sk_B_call_222 ?_ ?_ <;> assumption) | (with_reducible refine sk_B_call_206 ?_ ?_ <;> assumption) | (with_reducible refine sk_B_call_288 ?_ <;> assumption) | (with_reducible refine sk_B_call_400 ?_ <;> assumption) | (with_reducible refine sk_B_call_384 ?_ <;> assumption) | (with_reducible refine sk_B_call_379 ?_ <;> assumption) | (with_reducible refine sk_B_call_383 ?_ <;> assumption) | (with_reducible refine sk_B_call_373 ?_ <;> assumption) | (with_reducible refine sk_B_call_347 ?_ <;> assumption) | (with_reducible refine sk_B_call_339 ?_ <;> assumption) | (with_reducible refine sk_B_call_334 ?_ <;> assumption) | (with_reducible refine sk_B_call_123 ?_ ?_ <;> assumption) | (with_reducible refine sk_LP_call_123 ?_ _ _ <;> assumption) | (with_reducible refine sk_B_call_121 ?_ <;> assumption) | (with_reducible refine sk_B_call_120 ?_ <;> assumption) | (with_reducible refine sk_B_call_33 ?_ <;> assumption) | (with_reducible refine sk_B_call_32 ?_ <;> assumption) | (with_reducible refine sk_B_call_0 ?_ <;> assumption) | (with_reducible refine sk_F_call ?_ <;> assumption))))
  · rw [if_pos (Int32.le_iff_toInt_le.mpr (by omega))]
    refine jx_l (h206 (fun l6 l7 => ?_))
    refine pq_ok (fun _ => kc (pq_ok (fun _ => ?_)))
    rw [g.nm, if_neg (fun q => z (a2.mp q))]
    exact k2_109 g (fun w2 g2 => kk w2 x e' c' l6 l7 g2 r' s hjn)
/-- behind the last argument of a function -/
theorem j_argE {ro : Nat → Nat → Int32 → Int32 → CSt → Option (Sum Nat Int32 × CSt)} {k : Nat} (hV : EV2 v0 u0 n) (ho : o < 24) (hPA : PA v0 u0 m l4.toNatClampNeg) (hl2 : ¬ l2 = -1) (hl1 : l1.toNatClampNeg = t) (hp : p = u0.2.2.1 3 t) (hi : i < n) (ht : tyF v0 i = 41) (h : CE v0 v i l e) (h' : RE u0 u i (o + 1) l c) : jx (B_X8_arguments_153 N ro m p (Int32.ofNat k) v) (B_call_123 N (FE_ N d') R' l1 l2 l3 l4 (Int32.ofNat k) l6 l7 0 u) (AGq v0 u0 n (i + 1) o l e l4) := by
  have hj := hV.2.2.2.2.1
  have h_ro : ∀ q a b u, KP (FE_ N d' q a b u) u := sk_FE_ d'
  subst hp
  unfold B_X8_arguments_153 B_call_123
  refine k2_next hV.1 h hi (fun w1 g1 => ?_)
  rw [if_pos rfl, g1.nm]
  refine jx_r (y_ends hV.2.1 (t := 41) (by decide +kernel) h' hi ht (by omega) (fun x1 r1 => pp_pu ?_))
  have r2 := r1.x78 (a := 0)
  rw [if_neg (by rw [r2.sc (by decide)]; exact hj), if_pos r2.2.1, if_neg hl2]
  refine pp_rd ?_
  rw [r2.row (by decide), ← hPA.1]
  unfold B_call_288
  by_cases z : Int32.ofNat k = mI v0 m 11
  · rw [if_pos z, if_pos z]
    refine pp_rd (y_ok rfl (pp_rd (y_emit r2 (fun _ x3 r3 => pp_rd (pp_some (pq_some (Or.inr ⟨0, rfl, ?_, e, _, g1, r3, sfe_rf, rfl, hi⟩)))))))
    rw [r3.row (by decide)]
  · rw [if_neg z, if_neg z]
    refine jx_l ?_
    refine jx_ref (pp_rd ?_)
    rw [r2.row (by decide), hl1]
    exact y_bad hj r2 (by decide) (by decide) (fun _ _ => by repeat' (first | exact KP_some kp_rf | with_reducible refine KP_bn ?_ (fun _ _ => ?_) | with_reducible refine KP_if ?_ ?_ | with_reducible refine KP_rd (fun _ => ?_) | with_reducible refine KP_zr ?_ | (with_reducible refine KP_pu2 ?_ ?_; first | exact ks_sI (by decide) kp_rf | exact ks_sL kp_rf | exact ks_sA (by decide) kp_rf | exact ks_sB (by decide) kp_rf) | (with_reducible refine KP_wr2 ?_ ?_; first | exact ks_sA (by decide) kp_rf | exact ks_sB (by decide) kp_rf) | with_reducible exact h_ro _ _ _ _ | with_reducible exact sk_F_is | with_reducible exact sk_F_take | with_reducible exact sk_F_emit | with_reducible exact sk_F_wrong | with_reducible exact sk_F_cost | with_reducible exact sk_F_stuck | with_reducible exact sk_F_ends | with_reducible exact sk_F_begins | with_reducible exact sk_F_opens | with_reducible exact sk_F_has | with_reducible exact sk_F_isNumber | with_reducible exact sk_F_isNext | with_reducible exact sk_F_push | with_reducible exact sk_F_lead | with_reducible exact sk_F_here | with_reducible exact sk_F_kind | with_reducible exact sk_F_isKind | with_reducible exact sk_F_own | with_reducible exact sk_F_constant | with_reducible exact sk_F_bounded | with_reducible exact sk_F_joined | with_reducible exact sk_F_strength | with_reducible exact sk_F_leadAll | with_reducible exact sk_F_loop | with_reducible exact sk_F_label | with_reducible exact sk_F_leaves | with_reducible exact sk_F_telling | with_reducible exact sk_F_local | with_reducible exact sk_F_addSlot | with_reducible exact sk_F_addVariable | with_reducible exact sk_F_isTooWide | with_reducible exact sk_F_named | with_reducible exact sk_F_slotOf | with_reducible exact sk_F_bad | with_reducible exact sk_G_expression | with_reducible exact sk_G_spot | with_reducible exact sk_G_body | with_reducible exact sk_G_stat | (with_reducible refine sk_B_call_222 ?_ ?_ <;> assumption) | (with_reducible refine sk_B_call_206 ?_ ?_ <;> assumption) | (with_reducible refine sk_B_call_288 ?_ <;> assumption) | (with_reducible refine sk_B_call_400 ?_ <;> assumption) | (with_reducible refine sk_B_call_384 ?_ <;> assumption) | (with_reducible refine sk_B_call_379 ?_ <;> assumption) | (with_reducible refine sk_B_call_383 ?_ <;> assumption) | (with_reducible refine sk_B_call_373 ?_ <;> assumption) | (with_reducible refine sk_B_call_347 ?_ <;> assumption) | (with_reducible refine sk_B_call_339 ?_ <;> assumption) | (with_reducible refine sk_B_call_334 ?_ <;> assumption) | (with_reducible refine sk_B_call_123 ?_ ?_ <;> assumption) | (with_reducible refine sk_LP_call_123 ?_ _ _ <;> assumption) | (with_reducible refine sk_B_call_121 ?_ <;> assumption) | (with_reducible refine sk_B_call_120 ?_ <;> assumption) | (with_reducible refine sk_B_call_33 ?_ <;> assumption) | (with_reducible refine sk_B_call_32 ?_ <;> assumption) | (with_reducible refine sk_B_call_0 ?_ <;> assumption) | (with_reducible refine sk_F_call ?_ <;> assumption)))
/-- the arguments of a function behind its first one -/
theorem j_argsF (hV : EV2 v0 u0 n) (ho : o < 24) (hX : HX2 N v0 u0 n o l X) (hPg : Pg X) (hPA : PA v0 u0 m l4.toNatClampNeg) (hl2 : ¬ l2 = -1) (hl1 : l1.toNatClampNeg = t) (hp : p = u0.2.2.1 3 t) :
    ∀ q i j k v u e c M M' l5 l6 l7, oWn (fun i => tyF v0 i = 44) (oN X) (oT (tyF v0) 41) q i (.inr j) → i ≤ n → k ≤ i → 1 ≤ k → l5 + 1 = Int32.ofNat k → CE v0 v i l e → RE u0 u i (o + 1) l c → 0 ≤ e.1.toInt → e.1.toInt ≤ 10 * o + 10 → jx (LP_X8_arguments_17 N (FTE_ N d) M (m, lb, p, Int32.ofNat k, v)) (B_call_222 N (FE_ N d') (LP_call_123 N (FE_ N d') M') l1 l2 l3 l4 l5 l6 l7 u) (AGq v0 u0 n j o l e l4) := by
  have hn2 := hV.2.1.2.2
  have h_ro : ∀ q a b u, KP (FE_ N d' q a b u) u := sk_FE_ d'
  have e15 : (1500 : Int32).toInt = 1500 := by decide
  have e0 : (0 : Int32).toInt = 0 := by decide
  intro q
  induction q with
  | zero =>
    rintro i j k v u e c M M' l5 l6 l7 ⟨z, hD⟩ hi hki hk1 h5 h h' h0 h1
    obtain ⟨t1, rfl⟩ := oT_r hD
    have hil := hV.lt hi (by rw [t1]; exact nEnd (by decide) (by decide) (by decide))
    cases M with
    | zero => exact jx_n1 rfl
    | succ M =>
      show jx (B_X8_arguments_17 N (FTE_ N d) (LP_X8_arguments_17 N (FTE_ N d) M) m lb p (Int32.ofNat k) v) _ _
      unfold B_call_222
      refine jx_r (y_has hV.2.1 (t := 44) (by decide +kernel) (nEnd (by decide) (by decide) (by decide)) h' hi (fun y => absurd y z) (fun _ => ?_))
      rw [h5]
      refine jx_l ?_
      cases M' with
      | zero => exact jx_n2 rfl
      | succ M' =>
        show jx _ (B_call_123 N (FE_ N d') (LP_call_123 N (FE_ N d') M') l1 l2 l3 l4 (Int32.ofNat k) l6 l7 0 u) _
        have fin := j_argE (N := N) (ro := FTE_ N d) (d' := d') (R' := LP_call_123 N (FE_ N d') M') (l3 := l3) (l6 := l6) (l7 := l7) (k := k) hV ho hPA hl2 hl1 hp hil t1 h h'
        unfold B_X8_arguments_17
        exact pq_if (fun _ => fin) (fun _ => k2_if h (fun _ => fin) (fun y => absurd t1 y))
  | succ q ih =>
    rintro i j k v u e c M M' l5 l6 l7 ⟨z, hD⟩ hi hki hk1 h5 h h' h0 h1
    have z : tyF v0 i = 44 := z
    obtain ⟨k1, p1, p2⟩ := oS_r hD
    have hil := hV.lt hi (by rw [z]; exact nEnd (by decide) (by decide) (by decide))
    have ki := ofN_i (k := k) (by omega)
    cases M with
    | zero => exact jx_n1 rfl
    | succ M =>
      show jx (B_X8_arguments_17 N (FTE_ N d) (LP_X8_arguments_17 N (FTE_ N d) M) m lb p (Int32.ofNat k) v) _ _
      unfold B_call_222
      refine jx_r (y_has hV.2.1 (t := 44) (by decide +kernel) (nEnd (by decide) (by decide) (by decide)) h' hi (fun _ _ x1 r1 => ?_) (fun y => absurd z y))
      rw [h5]
      refine jx_l ?_
      cases M' with
      | zero => exact jx_n2 rfl
      | succ M' =>
        show jx _ (B_call_123 N (FE_ N d') (LP_call_123 N (FE_ N d') M') l1 l2 l3 l4 (Int32.ofNat k) l6 l7 1 x1) _
        unfold B_X8_arguments_17
        rw [if_neg (fun y => by have := Int32.le_iff_toInt_le.mp y; rw [e15] at this; omega)]
        refine k2_if h (fun y => by rw [z] at y; exact absurd y (by decide)) (fun _ => ?_)
        rw [if_neg (fun y => by have := Int32.le_iff_toInt_le.mp y; rw [e0] at this; omega)]
        refine k2_next hV.1 h hil (fun w1 g1 => ?_)
        have hgt := hPg _ _ p1
        refine j_arg1 hV ho hX hPA hl2 (sk_LP_call_123 h_ro M') p1 hil (by omega) g1 r1 h0 h1 ?_
        intro w2 x2 e2 c2 l6 l7 g2 r2 s2 hk1n
        rw [ofN1 (by omega)]
        refine jx_m (ih k1 j (k + 1) w2 x2 e2 c2 M M' (Int32.ofNat k) l6 l7 p2 hk1n (by omega) (by omega) (ofN1 (by omega)) g2 r2 (sfe_nn s2 h0) (sfe_lo s2 h1)) ?_
        rintro b w r x ⟨a1, e3, c3, a2, a3, a4, a5⟩
        exact ⟨a1, e3, c3, a2, a3, sfe_tr s2 a4, a5⟩
/-- the arguments of a function -/
theorem j_argsS {M : Nat} (hV : EV2 v0 u0 n) (ho : o < 24) (hX : HX2 N v0 u0 n o l X) (hPg : Pg X) (hPA : PA v0 u0 m l4.toNatClampNeg) (hl2 : ¬ l2 = -1) (hl1 : l1.toNatClampNeg = t) (hp : p = u0.2.2.1 3 t) (hD : oF (fun i => tyF v0 i = 41) (dAl (tyF v0) X) (oS X (dAl (tyF v0) X)) i (.inr j)) (hi : i ≤ n) (h : CE v0 v i l e) (h' : RE u0 u i (o + 1) l c) (h0 : 0 ≤ e.1.toInt) (h1 : e.1.toInt ≤ 10 * o + 10) : jx (LP_X8_arguments_17 N (FTE_ N d) M (m, lb, p, 0, v)) (bn (F_is N 224 u) fun r_63 u_62 => if r_63 = (0 : Int32) then (B_call_121 N (FE_ N d') l1 l2 l3 l4 0 3 3 1 u_62) else (B_call_120 N (FE_ N d') l1 l2 l3 l4 0 3 3 u_62)) (AGq v0 u0 n j o l e l4) := by
  have h_ro : ∀ q a b u, KP (FE_ N d' q a b u) u := sk_FE_ d'
  cases M with
  | zero => exact jx_n1 rfl
  | succ M =>
    show jx (B_X8_arguments_17 N (FTE_ N d) (LP_X8_arguments_17 N (FTE_ N d) M) m lb p 0 v) _ _
    rcases oF_r hD with ⟨z, q⟩ | ⟨z, q⟩
    · have hil := hV.lt hi (by rw [z]; exact nEnd (by decide) (by decide) (by decide))
      rcases oW_r q with ⟨-, q2⟩ | ⟨q1, -⟩
      · obtain ⟨-, rfl⟩ := oT_r q2
        refine jx_r (y_is hV.2.1 (t := 41) (by decide +kernel) h' hi (fun _ => ?_) (fun y => absurd z y))
        rw [if_neg (by decide)]
        refine jx_l ?_
        have key : ∀ M', jx (B_X8_arguments_17 N (FTE_ N d) (LP_X8_arguments_17 N (FTE_ N d) M) m lb p 0 v) (LP_call_123 N (FE_ N d') M' (l1, l2, l3, l4, 0, 3, 3, 0, u)) (AGq v0 u0 n (i + 1) o l e l4) := by
          intro M'
          cases M' with
          | zero => exact jx_n2 rfl
          | succ M' =>
            show jx _ (B_call_123 N (FE_ N d') (LP_call_123 N (FE_ N d') M') l1 l2 l3 l4 (Int32.ofNat 0) 3 3 0 u) _
            have fin := j_argE (N := N) (ro := FTE_ N d) (d' := d') (R' := LP_call_123 N (FE_ N d') M') (l3 := l3) (l6 := 3) (l7 := 3) (k := 0) hV ho hPA hl2 hl1 hp hil z h h'
            unfold B_X8_arguments_17
            exact pq_if (fun _ => fin) (fun _ => k2_if h (fun _ => fin) (fun y => absurd z y))
        exact key N
      · rw [z] at q1
        exact absurd q1 (by decide)
    · obtain ⟨k1, p1, p2⟩ := oS_r q
      obtain ⟨q2, p2⟩ := p2
      refine jx_r (y_is hV.2.1 (t := 41) (by decide +kernel) h' hi (fun y => absurd y z) (fun _ => ?_))
      rw [if_pos rfl]
      refine jx_l ?_
      have key : ∀ M', jx (B_X8_arguments_17 N (FTE_ N d) (LP_X8_arguments_17 N (FTE_ N d) M) m lb p 0 v) (LP_call_123 N (FE_ N d') M' (l1, l2, l3, l4, 0, 3, 3, 1, u)) (AGq v0 u0 n j o l e l4) := by
        intro M'
        cases M' with
        | zero => exact jx_n2 rfl
        | succ M' =>
          show jx (B_X8_arguments_17 N (FTE_ N d) (LP_X8_arguments_17 N (FTE_ N d) M) m lb p (Int32.ofNat 0) v) (B_call_123 N (FE_ N d') (LP_call_123 N (FE_ N d') M') l1 l2 l3 l4 (Int32.ofNat 0) 3 3 1 u) _
          unfold B_X8_arguments_17
          rw [if_neg (by decide)]
          refine k2_if h (fun y => absurd y z) (fun _ => ?_)
          rw [if_pos (by decide)]
          have hgt := hPg _ _ p1
          refine j_arg1 hV ho hX hPA hl2 (sk_LP_call_123 h_ro M') p1 hi (by omega) h h' h0 h1 ?_
          intro w2 x2 e2 c2 l6 l7 g2 r2 s2 hk1n
          rw [ofN1 (by omega)]
          refine jx_m (j_argsF hV ho hX hPg hPA hl2 hl1 hp q2 k1 j (0 + 1) w2 x2 e2 c2 M M' (Int32.ofNat 0) l6 l7 p2 hk1n (by omega) (by omega) (ofN1 (by omega)) g2 r2 (sfe_nn s2 h0) (sfe_lo s2 h1)) ?_
          rintro b w r x ⟨a1, e3, c3, a2, a3, a4, a5⟩
          exact ⟨a1, e3, c3, a2, a3, sfe_tr s2 a4, a5⟩
      exact key N
end Cl
