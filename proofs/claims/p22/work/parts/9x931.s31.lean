/-! The second pass: a Place, a parameter behind an instance, as an operand. -/
def HX2 (N : Nat) (v0 : CSt) (u0 : RSt) (n o l : Nat) (X : Rl) : Prop := o < 24 → ∀ d d' i j v u e c, X i (.inr j) → i ≤ n → CE v0 v i l e → RE u0 u i (o + 1) l c → 0 ≤ e.1.toInt → e.1.toInt ≤ 10 * (o + 1) → jx (FTE_ N d 0 0 0 0 v) (FE_ N d' 0 0 0 u) (fun b w r x => EPq v0 u0 j (o + 1) l e b w r x ∧ j ≤ n)
def HO2 (N : Nat) (v0 : CSt) (u0 : RSt) (n o l : Nat) (O : Rl) : Prop := o < 24 → ∀ d d' i j v u e c, O i (.inr j) → i ≤ n → CE v0 v i l e → RE u0 u i (o + 1) l c → 0 ≤ e.1.toInt → e.1.toInt ≤ 10 * (o + 1) + 10 → jx (FTE_ N d 2 0 0 0 v) (FE_ N d' 2 0 0 u) (fun b w r x => EOq v0 u0 i j (o + 1) l e b w r x ∧ j ≤ n)
/-- an operand that is no constant -/
def NOq (v0 : CSt) (u0 : RSt) (n j o l : Nat) (e : E5) : Int32 → CSt → Int32 → RSt → Prop := fun b w r x => b = r ∧ KD b ∧ ∃ e' c', CE v0 w j l e' ∧ RE u0 x j o l c' ∧ sfe e e' ∧ c'.1 = 0 ∧ j ≤ n
def IXq (v0 : CSt) (u0 : RSt) (n j o l : Nat) (e : E5) : Int32 → CSt → Int32 → RSt → Prop := fun _ w _ x => ∃ e' c', CE v0 w j l e' ∧ RE u0 x j o l c' ∧ sfe e e' ∧ j ≤ n
/-- behind a Place that is read -/
def SPq (v0 : CSt) (u0 : RSt) (n j o l : Nat) (e : E5) : Int32 → CSt → Int32 → RSt → Prop := fun b w _ x => ∃ e' c', CE v0 w j l e' ∧ RE u0 x j o l c' ∧ sfe e e' ∧ b = (if c'.2.2.2.1 = -1 then c'.2.2.1 else 3) ∧ KD b ∧ j ≤ n
section Pl3
variable {v0 v : CSt} {u0 u : RSt} {i j o l n N m d d' : Nat} {e : E5} {c : R5} {X : Rl} {b : Prop} {p l1 l2 : Int32}
theorem jx_n1 {β γ : Type} {A : β → CSt → γ → RSt → Prop} {X : Option (Sum Nat β × CSt)} {Y : Option (γ × RSt)} (h : X = none) : jx X Y A := by
  subst h
  exact jx_no
theorem jx_n2 {β γ : Type} {A : β → CSt → γ → RSt → Prop} {X : Option (Sum Nat β × CSt)} {Y : Option (γ × RSt)} (h : Y = none) : jx X Y A := by
  subst h
  exact jx_on
theorem KD_3 : KD 3 := Or.inr (Or.inr (Or.inr (Or.inl rfl)))
theorem KD_4 : KD 4 := Or.inr (Or.inr (Or.inr (Or.inr rfl)))
theorem j_ix12 (hV : EV2 v0 u0 n) (ho : b → o < 24) (hX : HX2 N v0 u0 n o l X) (hD : oS (oP (tyF v0) b 91) (oS X (oT (tyF v0) 93)) i (.inr j)) (h : CE v0 v i l e) (h' : RE u0 u i o l c) (hi : i ≤ n) (h0 : 0 ≤ e.1.toInt) (h1 : e.1.toInt ≤ 10 * o + 10) : jx (FTE_ N d 12 0 0 0 v) (FE_ N d' 7 l1 l2 u) (IXq v0 u0 n j o l e) := by
  cases d with
  | zero => exact jx_n1 rfl
  | succ d =>
    cases d' with
    | zero => exact jx_n2 rfl
    | succ d' =>
      show jx (F_X8_indexNumber N (FTE_ N d) v) (F_index N (FE_ N d') l1 l2 u) _
      exact j_index hV ho hX hD h h' hi h0 h1
theorem j_ix11 (hV : EV2 v0 u0 n) (ho : b → o < 24) (hX : HX2 N v0 u0 n o l X) (hD : oS (oP (tyF v0) b 91) (oS X (oT (tyF v0) 93)) i (.inr j)) (h : CE v0 v i l e) (h' : RE u0 u i o l c) (hi : i ≤ n) (h0 : 0 ≤ e.1.toInt) (h1 : e.1.toInt ≤ 10 * o + 10) : jx (FTE_ N d 11 m p 0 v) (FE_ N d' 7 l1 l2 u) (IXq v0 u0 n j o l e) := by
  cases d with
  | zero => exact jx_n1 rfl
  | succ d =>
    show jx (F_X8_index N (FTE_ N d) m p v) _ _
    unfold F_X8_index B_X8_index_0
    refine jx_btp (j_ix12 hV ho hX hD h h' hi h0 h1) ?_
    rintro b w r x ⟨e', c', g, r', s, hj⟩
    refine pq_ok (fun _ => k2_isLocal (fun q => ?_))
    unfold B_X8_index_22
    exact pq_if (fun _ => k2_step g (fun _ w2 g2 => pq_some (Or.inr ⟨_, rfl, e', c', g2, r', s, hj⟩))) (fun _ => k2_step g (fun _ w2 g2 => pq_some (Or.inr ⟨_, rfl, e', c', g2, r', s, hj⟩)))
/-- the bit behind a Place that is read -/
theorem j_58 {ro : Nat → Nat → Int32 → Int32 → CSt → Option (Sum Nat Int32 × CSt)} {ro' : Nat → Int32 → Int32 → RSt → Option (Int32 × RSt)} (hV : EV2 v0 u0 n) (hk : KD (mI v0 m 5)) (hD : dBit (tyF v0) i (.inr j)) (h : CE v0 v i l e) (h' : RE u0 u i o l c) (hi : i ≤ n) : jx (B_X8_ofPlace_58 N ro p m v) (B_spot_382 N ro' (mI v0 m 5) u) (SPq v0 u0 n j o l e) := by
  unfold B_X8_ofPlace_58 B_spot_382
  rcases oF_r hD with ⟨z, q⟩ | ⟨z, q⟩
  · obtain ⟨t1, rfl⟩ := oT_r (show oT (tyF v0) 129 (i + 1) (.inr j) from q)
    have hil := hV.lt hi (by rw [z]; exact nEnd (by decide) (by decide) (by decide))
    have hil2 := hV.lt (i := i + 1) hil (by rw [t1]; exact nEnd (by decide) (by decide) (by decide))
    refine k2_if h (fun _ => ?_) (fun y => absurd z y)
    refine pq_ok (fun _ => ?_)
    rw [h.nm]
    refine jx_r (y_has hV.2.1 (t := 46) (by decide +kernel) (nEnd (by decide) (by decide) (by decide)) h' hi (fun _ _ w hw => ?_) (fun y => absurd z y))
    rw [if_neg (by decide)]
    refine jx_l (j_bit hV hk h hw hil hil2 t1 (fun x w2 z2 hx g2 r2 => ?_) (fun _ _ => by unfold B_spot_409; repeat' (first | exact KP_some kp_rf | with_reducible refine KP_bn ?_ (fun _ _ => ?_) | with_reducible refine KP_if ?_ ?_ | with_reducible refine KP_rd (fun _ => ?_) | with_reducible refine KP_zr ?_ | (with_reducible refine KP_pu2 ?_ ?_; first | exact ks_sI (by decide) kp_rf | exact ks_sL kp_rf | exact ks_sA (by decide) kp_rf | exact ks_sB (by decide) kp_rf) | (with_reducible refine KP_wr2 ?_ ?_; first | exact ks_sA (by decide) kp_rf | exact ks_sB (by decide) kp_rf) | with_reducible exact h_ro _ _ _ _ | with_reducible exact sk_F_is | with_reducible exact sk_F_take | with_reducible exact sk_F_emit | with_reducible exact sk_F_wrong | with_reducible exact sk_F_cost | with_reducible exact sk_F_stuck | with_reducible exact sk_F_ends | with_reducible exact sk_F_begins | with_reducible exact sk_F_opens | with_reducible exact sk_F_has | with_reducible exact sk_F_isNumber | with_reducible exact sk_F_isNext | with_reducible exact sk_F_push | with_reducible exact sk_F_lead | with_reducible exact sk_F_here | with_reducible exact sk_F_kind | with_reducible exact sk_F_isKind | with_reducible exact sk_F_own | with_reducible exact sk_F_constant | with_reducible exact sk_F_bounded | with_reducible exact sk_F_joined | with_reducible exact sk_F_strength | with_reducible exact sk_F_leadAll | with_reducible exact sk_F_loop | with_reducible exact sk_F_label | with_reducible exact sk_F_leaves | with_reducible exact sk_F_telling | with_reducible exact sk_F_local | with_reducible exact sk_F_addSlot | with_reducible exact sk_F_addVariable | with_reducible exact sk_F_isTooWide | with_reducible exact sk_F_named | with_reducible exact sk_F_slotOf | with_reducible exact sk_F_bad | with_reducible exact sk_G_expression | with_reducible exact sk_G_spot | with_reducible exact sk_G_body | with_reducible exact sk_G_stat | (with_reducible refine sk_B_spot_409 ?_ <;> assumption) | (with_reducible refine sk_B_spot_382 ?_ <;> assumption) | (with_reducible refine sk_B_spot_361 ?_ <;> assumption) | (with_reducible refine sk_B_spot_331 ?_ <;> assumption) | (with_reducible refine sk_B_spot_305 ?_ <;> assumption) | (with_reducible refine sk_B_spot_283 ?_ <;> assumption) | (with_reducible refine sk_B_spot_269 ?_ <;> assumption) | (with_reducible refine sk_B_spot_268 ?_ <;> assumption) | (with_reducible refine sk_B_spot_233 ?_ <;> assumption) | (with_reducible refine sk_B_spot_232 ?_ <;> assumption) | (with_reducible refine sk_B_spot_223 ?_ <;> assumption) | (with_reducible refine sk_B_spot_185 ?_ <;> assumption) | (with_reducible refine sk_B_spot_153 ?_ <;> assumption) | (with_reducible refine sk_B_spot_108 ?_ <;> assumption) | (with_reducible refine sk_B_spot_107 ?_ <;> assumption) | (with_reducible refine sk_B_spot_84 ?_ <;> assumption) | (with_reducible refine sk_B_spot_83 ?_ <;> assumption) | (with_reducible refine sk_B_spot_65 ?_ <;> assumption) | (with_reducible refine sk_B_spot_64 ?_ <;> assumption) | (with_reducible refine sk_B_spot_43 ?_ <;> assumption) | (with_reducible refine sk_B_spot_0 ?_ <;> assumption) | (with_reducible refine sk_F_spot ?_ <;> assumption) | with_reducible exact sk_G_spot)))
    unfold B_spot_409
    refine k2_step g2 (fun _ w3 g3 => pq_some (pp_pu (pp_pu (pp_some (Or.inr ⟨3, rfl, _, _, g3, (r2.x80).x81, sfe_rf, ?_, KD_3, hil2⟩)))))
    show (3 : Int32) = if x = -1 then _ else 3
    rw [if_neg hx]
  · have hj := oE_r q
    subst hj
    refine k2_if h (fun y => absurd y z) (fun _ => pq_some ?_)
    rw [h.nm]
    refine y_has hV.2.1 (t := 46) (by decide +kernel) (nEnd (by decide) (by decide) (by decide)) h' hi (fun y => absurd y z) (fun _ => ?_)
    rw [if_pos rfl]
    unfold B_spot_409
    refine pp_pu (pp_pu (pp_some (Or.inr ⟨_, rfl, _, _, h, (h'.x80).x81, sfe_rf, ?_, hk, hi⟩)))
    show mI v0 m 5 = if (-1 : Int32) = -1 then mI v0 m 5 else 3
    rw [if_pos rfl]
theorem j_ofPlace (hV : EV2 v0 u0 n) (ho : b → o < 24) (hX : HX2 N v0 u0 n o l X) (hD : oS (dIdx (tyF v0) b X) (dBit (tyF v0)) (i + 1) (.inr j)) (h : CE v0 v i l e) (h' : RE u0 u i o l c) (hi : i < n) (ht : tyF v0 i = 128) (h0 : 0 ≤ e.1.toInt) (h1 : e.1.toInt ≤ 10 * o + 10) : jx (F_X8_ofPlace N (FTE_ N d) p v) (B_operand_329 N (FE_ N d') u) (NOq v0 u0 n j o l e) := by
  have hn2 := hV.2.1.2.2
  cases d' with
  | zero => exact jx_n2 rfl
  | succ d' =>
    have h_ro : ∀ q a b u, KP (FE_ N (d' + 1) q a b u) u := sk_FE_ (d' + 1)
    have h_ro2 : ∀ q a b u, KP (FE_ N d' q a b u) u := sk_FE_ d'
    obtain ⟨k1, p1, p2⟩ := oS_r hD
    show jx _ (bn (F_spot N (FE_ N d') 0 u) fun _ u_23 => bn (F_emit N 16 (u_23.1 80) 0 u_23) fun r_25 u_24 => if (u_24.1 81) = ((-1) : Int32) then (B_operand_366 N (FE_ N (d' + 1)) u_24) else (bn (F_emit N 20 (u_24.1 81) 0 u_24) fun r_28 u_27 => B_operand_366 N (FE_ N (d' + 1)) u_27)) _
    refine jx_bnp (A := SPq v0 u0 n j o l e) ?_ ?_ (fun _ _ => by repeat' (first | exact KP_some kp_rf | with_reducible refine KP_bn ?_ (fun _ _ => ?_) | with_reducible refine KP_if ?_ ?_ | with_reducible refine KP_rd (fun _ => ?_) | with_reducible refine KP_zr ?_ | (with_reducible refine KP_pu2 ?_ ?_; first | exact ks_sI (by decide) kp_rf | exact ks_sL kp_rf | exact ks_sA (by decide) kp_rf | exact ks_sB (by decide) kp_rf) | (with_reducible refine KP_wr2 ?_ ?_; first | exact ks_sA (by decide) kp_rf | exact ks_sB (by decide) kp_rf) | with_reducible exact h_ro _ _ _ _ | with_reducible exact sk_F_is | with_reducible exact sk_F_take | with_reducible exact sk_F_emit | with_reducible exact sk_F_wrong | with_reducible exact sk_F_cost | with_reducible exact sk_F_stuck | with_reducible exact sk_F_ends | with_reducible exact sk_F_begins | with_reducible exact sk_F_opens | with_reducible exact sk_F_has | with_reducible exact sk_F_isNumber | with_reducible exact sk_F_isNext | with_reducible exact sk_F_push | with_reducible exact sk_F_lead | with_reducible exact sk_F_here | with_reducible exact sk_F_kind | with_reducible exact sk_F_isKind | with_reducible exact sk_F_own | with_reducible exact sk_F_constant | with_reducible exact sk_F_bounded | with_reducible exact sk_F_joined | with_reducible exact sk_F_strength | with_reducible exact sk_F_leadAll | with_reducible exact sk_F_loop | with_reducible exact sk_F_label | with_reducible exact sk_F_leaves | with_reducible exact sk_F_telling | with_reducible exact sk_F_local | with_reducible exact sk_F_addSlot | with_reducible exact sk_F_addVariable | with_reducible exact sk_F_isTooWide | with_reducible exact sk_F_named | with_reducible exact sk_F_slotOf | with_reducible exact sk_F_bad | with_reducible exact sk_G_expression | with_reducible exact sk_G_spot | with_reducible exact sk_G_body | with_reducible exact sk_G_stat | (with_reducible refine sk_B_operand_40 ?_ <;> assumption) | (with_reducible refine sk_B_operand_141 ?_ <;> assumption) | (with_reducible refine sk_B_operand_130 ?_ <;> assumption) | (with_reducible refine sk_B_operand_366 ?_ <;> assumption) | (with_reducible refine sk_B_operand_329 ?_ <;> assumption) | (with_reducible refine sk_B_operand_71 ?_ <;> assumption) | (with_reducible refine sk_B_operand_0 ?_ <;> assumption) | (with_reducible refine sk_F_operand ?_ <;> assumption)))
    · unfold F_X8_ofPlace B_X8_ofPlace_0
      refine j_place (f := if tyF v0 (i + 1) = 91 then 1 else 0) hV h h' hi ht h_ro2 rfl (fun m l3 l6 l8 x hk hm hx => ?_)
      refine pq_ok (fun _ => k2_next hV.1 h hi (fun w1 g1 => ?_))
      rw [g1.nm, hm]
      unfold B_spot_283
      rcases oF_r p1 with ⟨z, q⟩ | ⟨z, q⟩
      · rw [if_pos z, if_neg (by decide)]
        refine pq_ok (fun _ => k2_cost g1 (fun w2 g2 => ?_))
        refine jx_r (y_adv hx (by omega) (fun x1 r1 => ?_))
        rw [if_neg (by decide)]
        refine jx_l (jx_bt (j_ix11 hV ho hX q g2 r1 hi h0 h1) ?_ (fun _ _ => by have h_ro := h_ro2; repeat' (first | exact KP_some kp_rf | with_reducible refine KP_bn ?_ (fun _ _ => ?_) | with_reducible refine KP_if ?_ ?_ | with_reducible refine KP_rd (fun _ => ?_) | with_reducible refine KP_zr ?_ | (with_reducible refine KP_pu2 ?_ ?_; first | exact ks_sI (by decide) kp_rf | exact ks_sL kp_rf | exact ks_sA (by decide) kp_rf | exact ks_sB (by decide) kp_rf) | (with_reducible refine KP_wr2 ?_ ?_; first | exact ks_sA (by decide) kp_rf | exact ks_sB (by decide) kp_rf) | with_reducible exact h_ro _ _ _ _ | with_reducible exact sk_F_is | with_reducible exact sk_F_take | with_reducible exact sk_F_emit | with_reducible exact sk_F_wrong | with_reducible exact sk_F_cost | with_reducible exact sk_F_stuck | with_reducible exact sk_F_ends | with_reducible exact sk_F_begins | with_reducible exact sk_F_opens | with_reducible exact sk_F_has | with_reducible exact sk_F_isNumber | with_reducible exact sk_F_isNext | with_reducible exact sk_F_push | with_reducible exact sk_F_lead | with_reducible exact sk_F_here | with_reducible exact sk_F_kind | with_reducible exact sk_F_isKind | with_reducible exact sk_F_own | with_reducible exact sk_F_constant | with_reducible exact sk_F_bounded | with_reducible exact sk_F_joined | with_reducible exact sk_F_strength | with_reducible exact sk_F_leadAll | with_reducible exact sk_F_loop | with_reducible exact sk_F_label | with_reducible exact sk_F_leaves | with_reducible exact sk_F_telling | with_reducible exact sk_F_local | with_reducible exact sk_F_addSlot | with_reducible exact sk_F_addVariable | with_reducible exact sk_F_isTooWide | with_reducible exact sk_F_named | with_reducible exact sk_F_slotOf | with_reducible exact sk_F_bad | with_reducible exact sk_G_expression | with_reducible exact sk_G_spot | with_reducible exact sk_G_body | with_reducible exact sk_G_stat | (with_reducible refine sk_B_spot_409 ?_ <;> assumption) | (with_reducible refine sk_B_spot_382 ?_ <;> assumption) | (with_reducible refine sk_B_spot_361 ?_ <;> assumption) | (with_reducible refine sk_B_spot_331 ?_ <;> assumption) | (with_reducible refine sk_B_spot_305 ?_ <;> assumption) | (with_reducible refine sk_B_spot_283 ?_ <;> assumption) | (with_reducible refine sk_B_spot_269 ?_ <;> assumption) | (with_reducible refine sk_B_spot_268 ?_ <;> assumption) | (with_reducible refine sk_B_spot_233 ?_ <;> assumption) | (with_reducible refine sk_B_spot_232 ?_ <;> assumption) | (with_reducible refine sk_B_spot_223 ?_ <;> assumption) | (with_reducible refine sk_B_spot_185 ?_ <;> assumption) | (with_reducible refine sk_B_spot_153 ?_ <;> assumption) | (with_reducible refine sk_B_spot_108 ?_ <;> assumption) | (with_reducible refine sk_B_spot_107 ?_ <;> assumption) | (with_reducible refine sk_B_spot_84 ?_ <;> assumption) | (with_reducible refine sk_B_spot_83 ?_ <;> assumption) | (with_reducible refine sk_B_spot_65 ?_ <;> assumption) | (with_reducible refine sk_B_spot_64 ?_ <;> assumption) | (with_reducible refine sk_B_spot_43 ?_ <;> assumption) | (with_reducible refine sk_B_spot_0 ?_ <;> assumption) | (with_reducible refine sk_F_spot ?_ <;> assumption) | with_reducible exact sk_G_spot)))
        rintro b3 w3 r3 x3 ⟨e', c', g3, r3, s3, hj⟩
        refine pq_ok (fun _ => k2_step g3 (fun _ w4 g4 => jx_r (y_305 r3 (fun x5 r5 => jx_l ?_))))
        refine jx_m (j_58 hV hk p2 g4 r5 hj) ?_
        rintro b6 w6 r6 x6 ⟨e6, c6, a1, a2, a3, a4⟩
        exact ⟨e6, c6, a1, a2, sfe_tr s3 a3, a4⟩
      · have hk1 := oE_r q
        subst hk1
        rw [if_neg z, if_pos rfl]
        refine k2_get g1 (fun w2 g2 => ?_)
        refine jx_r (y_adv hx (by omega) (fun x1 r1 => ?_))
        rw [if_pos rfl]
        exact y_305 r1 (fun x5 r5 => jx_l (j_58 hV hk p2 g2 r5 hi))
    · rintro b2 w2 r2 x2 ⟨e', c', g2, hx, s2, rfl, kd, hj⟩
      have h366 : ∀ x, RE u0 x j o l c' → pp (B_operand_366 N (FE_ N (d' + 1)) x) (fun r' x' => NOq v0 u0 n j o l e (if c'.2.2.2.1 = -1 then c'.2.2.1 else 3) w2 r' x') := by
        intro x hx
        unfold B_operand_366
        have e81 : (sI x 78 0).1 81 = c'.2.2.2.1 := by rw [← hx.2.2.2.2.2]; rfl
        have e80 : (sI x 78 0).1 80 = c'.2.2.1 := by rw [← hx.2.2.2.2.2]; rfl
        refine pp_pu ?_
        rw [e81, e80]
        refine pp_if (fun z => pp_some ⟨by rw [if_pos z], kd, e', _, g2, hx.x78, s2, rfl, hj⟩) (fun z => pp_some ⟨by rw [if_neg z], kd, e', _, g2, hx.x78, s2, rfl, hj⟩)
      exact y_emit hx (fun _ x3 r3 => pp_if (fun _ => h366 x3 r3) (fun _ => y_emit r3 (fun _ x4 r4 => h366 x4 r4)))
/-! a parameter or local behind an instance -/
theorem MN_1 {s : Int32} {g : Int32 → Int32} (hM : MN v0 u0 n m s g) : (mI v0 m 2 = 1 ∧ ¬ g 1 = -1 ∧ IS v0 u0 n m (g 1)) ∨ (¬ mI v0 m 2 = 1 ∧ g 1 = -1) := by
  rcases hM with ⟨m1, m2, m3, m4⟩ | ⟨m1, m2, m3, m4, m5⟩ | ⟨m1, m2, m3, m4, m5⟩ | ⟨m1, m2, m3, m4⟩ | ⟨m1, m2, m3, m4⟩ | ⟨m1, m2, m3, m4, m5⟩ | ⟨m1, m2, m3, m4, m5⟩ | ⟨m1, m2, m3⟩
  · refine Or.inr ⟨?_, m2 1⟩
    rcases m3 with z | z <;> (rw [z]; decide)
  · exact Or.inr ⟨by rw [m2]; decide, m4 1 (by decide)⟩
  · exact Or.inl ⟨m2, m3, m5⟩
  · exact Or.inr ⟨by rw [m2]; decide, m4 1 (by decide)⟩
  · exact Or.inr ⟨by rw [m2]; decide, m4 1 (by decide)⟩
  · exact Or.inr ⟨by rw [m2]; decide, m4 1 (by decide)⟩
  · exact Or.inr ⟨by rw [m2]; decide, m4 1 (by decide)⟩
  · exact Or.inr ⟨by rw [m2]; decide, m3 1⟩
theorem y_315 {ro : Nat → Int32 → Int32 → RSt → Option (Int32 × RSt)} {l3 l5 : Int32} (h' : RE u0 u i o l c) : pp (B_inner_315 N ro l1 l3 l5 1 u) (fun r x => r = u0.2.2.1 20 l3.toNatClampNeg ∧ RE u0 x i o l (0, c.2)) := by
  have h387 : ∀ (s2 : Int32) (x : RSt), RE u0 x i o l c → pp (B_inner_387 N ro l3 1 16 s2 x) (fun r x => r = u0.2.2.1 20 l3.toNatClampNeg ∧ RE u0 x i o l (0, c.2)) := by
    intro s2 x hx
    unfold B_inner_387
    refine y_emit hx (fun _ x2 r2 => pp_pu ?_)
    rw [if_neg (by decide)]
    refine pp_rd ?_
    rw [(r2.x78 (a := 0)).row (by decide)]
    exact pp_some ⟨rfl, r2.x78⟩
  have h369 : ∀ x, RE u0 x i o l c → pp (B_inner_369 N ro l3 1 x) (fun r x => r = u0.2.2.1 20 l3.toNatClampNeg ∧ RE u0 x i o l (0, c.2)) := by
    intro x hx
    unfold B_inner_369
    rw [if_neg (by decide)]
    exact pp_rd (h387 _ x hx)
  unfold B_inner_315
  rw [if_neg (by decide)]
  refine pp_rd (pp_rd ?_)
  unfold B_inner_348
  exact y_emit h' (fun _ x2 r2 => pp_if (fun _ => h369 x2 r2) (fun _ => y_emit r2 (fun _ x3 r3 => h369 x3 r3)))
theorem j_inner (hV : EV2 v0 u0 n) (ho : b → o < 24) (hX : HX2 N v0 u0 n o l X) (hD : dIdx (tyF v0) b X (i + 3) (.inr j)) (h : CE v0 v i l e) (h' : RE u0 u i o l c) (hi : i < n) (ht : tyF v0 i = 128) (ht1 : tyF v0 (i + 1) = 46) (ht2 : tyF v0 (i + 2) = 128) (h0 : 0 ≤ e.1.toInt) (h1 : e.1.toInt ≤ 10 * o + 10) : jx (F_X8_ofInstance N (FTE_ N d) (cA v0 204 i) v) (F_inner N (FE_ N d') u) (NOq v0 u0 n j o l e) := by
  have hn2 := hV.2.1.2.2
  have hj := hV.2.2.2.2.1
  have h_ro : ∀ q a b u, KP (FE_ N d' q a b u) u := sk_FE_ d'
  have hi1 : i + 1 < n := hV.lt (i := i + 1) hi (by rw [ht1]; exact nEnd (by decide) (by decide) (by decide))
  have hi2 : i + 2 < n := hV.lt (i := i + 2) hi1 (by rw [ht2]; exact nEnd (by decide) (by decide) (by decide))
  obtain ⟨m, s, g, hm, hK, hM⟩ := hV.2.2.2.2.2.2 i hi ht
  unfold F_X8_ofInstance B_X8_ofInstance_0
  refine k2_known hK h (pq_ok (fun _ => ?_))
  rw [h.nm]
  have hpl := hV.pl (Nat.le_of_lt hi)
  have hpl2 := hV.pl (i := i + 2) (Nat.le_of_lt hi2)
  rcases MN_1 hM with ⟨m1, m2, m3⟩ | ⟨m1, m2⟩
  · rw [if_pos m1]
    obtain ⟨mb, b1, b2, b3, b4⟩ := m3
    obtain ⟨m', x, f1, f2, f3⟩ := b3 (i + 2) hi2 ht2
    unfold B_X8_ofInstance_22
    refine k2_next hV.1 h hi (fun w1 g1 => k2_next hV.1 g1 hi1 (fun w2 g2 => k2_here g2 (pq_ok (fun _ => ?_))))
    rw [g2.nm, g2.rf]
    refine pq_bc (pq_m (b2 N w2 _ _ _ g2) (fun q w3 hq => ?_))
    rw [hq.1, hq.2]
    refine pq_ok (fun _ => k2_head g2 (k2_tail g2 (pq_bc (pq_m (f1 N w2 _ _ g2) (fun q w4 hq => ?_)))))
    rw [hq.1, hq.2]
    refine pq_ok (fun _ => ?_)
    rw [g2.nm]
    have ref : ∀ {A : Int32 → CSt → Int32 → RSt → Prop} {C : Option (Sum Nat Int32 × CSt)}, (∀ y, RE u0 y (i + 2) o l c → jx C (B_inner_198 N (FE_ N d') (g 1) (u0.2.2.1 3 (i + 2)) x y) A) → jx C (F_inner N (FE_ N d') u) A := by
      intro A C hC
      refine jx_r ?_
      unfold F_inner B_inner_0
      refine y_own hK h' ?_
      rw [if_neg m2]
      unfold B_inner_17
      refine y_rA h' (by decide) (y_ok rfl (y_rA h' (by decide) (y_cost h' (fun x1 r1 => pp_pu ?_))))
      have e2 : (2 : Int32).toInt = 2 := by decide
      have r2 : RE u0 (sI x1 65 (x1.1 65 + 2)) (i + 2) o l c := r1.x65 (by
        have := r1.2.2.1
        rw [tI_add (by omega) (by omega), e2, this]
        omega)
      refine y_rA r2 (by decide) ?_
      rw [if_neg (by rw [r2.sc (by decide)]; exact hj), if_pos r2.2.1]
      refine pp_rd ?_
      rw [r2.row (by decide), r2.sc (k := 56) (by decide)]
      unfold B_inner_97
      exact f2 N (FE_ N d') (g 1) (u0.2.2.1 3 (i + 2)) _ _ _ _ _ r2 (jx_l (hC _ r2))
    rcases f3 with ⟨x1, x2⟩ | ⟨x1, x2, s1, s2, s3, s4⟩
    · rw [if_pos x2]
      refine ref (fun y hy => ?_)
      rw [hpl2]
      refine jx_ref ?_
      unfold B_inner_198
      rw [if_pos x1]
      unfold B_inner_209
      exact y_bad hj hy (by decide) (by decide) (fun _ _ => by repeat' (first | exact KP_some kp_rf | with_reducible refine KP_bn ?_ (fun _ _ => ?_) | with_reducible refine KP_if ?_ ?_ | with_reducible refine KP_rd (fun _ => ?_) | with_reducible refine KP_zr ?_ | (with_reducible refine KP_pu2 ?_ ?_; first | exact ks_sI (by decide) kp_rf | exact ks_sL kp_rf | exact ks_sA (by decide) kp_rf | exact ks_sB (by decide) kp_rf) | (with_reducible refine KP_wr2 ?_ ?_; first | exact ks_sA (by decide) kp_rf | exact ks_sB (by decide) kp_rf) | with_reducible exact h_ro _ _ _ _ | with_reducible exact sk_F_is | with_reducible exact sk_F_take | with_reducible exact sk_F_emit | with_reducible exact sk_F_wrong | with_reducible exact sk_F_cost | with_reducible exact sk_F_stuck | with_reducible exact sk_F_ends | with_reducible exact sk_F_begins | with_reducible exact sk_F_opens | with_reducible exact sk_F_has | with_reducible exact sk_F_isNumber | with_reducible exact sk_F_isNext | with_reducible exact sk_F_push | with_reducible exact sk_F_lead | with_reducible exact sk_F_here | with_reducible exact sk_F_kind | with_reducible exact sk_F_isKind | with_reducible exact sk_F_own | with_reducible exact sk_F_constant | with_reducible exact sk_F_bounded | with_reducible exact sk_F_joined | with_reducible exact sk_F_strength | with_reducible exact sk_F_leadAll | with_reducible exact sk_F_loop | with_reducible exact sk_F_label | with_reducible exact sk_F_leaves | with_reducible exact sk_F_telling | with_reducible exact sk_F_local | with_reducible exact sk_F_addSlot | with_reducible exact sk_F_addVariable | with_reducible exact sk_F_isTooWide | with_reducible exact sk_F_named | with_reducible exact sk_F_slotOf | with_reducible exact sk_F_bad | with_reducible exact sk_G_expression | with_reducible exact sk_G_spot | with_reducible exact sk_G_body | with_reducible exact sk_G_stat | (with_reducible refine sk_B_inner_192 ?_ ?_ <;> assumption) | (with_reducible refine sk_B_inner_387 ?_ <;> assumption) | (with_reducible refine sk_B_inner_369 ?_ <;> assumption) | (with_reducible refine sk_B_inner_348 ?_ <;> assumption) | (with_reducible refine sk_B_inner_315 ?_ <;> assumption) | (with_reducible refine sk_B_inner_311 ?_ <;> assumption) | (with_reducible refine sk_B_inner_275 ?_ <;> assumption) | (with_reducible refine sk_B_inner_274 ?_ <;> assumption) | (with_reducible refine sk_B_inner_264 ?_ <;> assumption) | (with_reducible refine sk_B_inner_242 ?_ <;> assumption) | (with_reducible refine sk_B_inner_241 ?_ <;> assumption) | (with_reducible refine sk_B_inner_209 ?_ <;> assumption) | (with_reducible refine sk_B_inner_198 ?_ <;> assumption) | (with_reducible refine sk_B_inner_102 ?_ ?_ <;> assumption) | (with_reducible refine sk_LP_inner_102 ?_ _ _ <;> assumption) | (with_reducible refine sk_B_inner_97 ?_ <;> assumption) | (with_reducible refine sk_B_inner_96 ?_ <;> assumption) | (with_reducible refine sk_B_inner_17 ?_ <;> assumption) | (with_reducible refine sk_B_inner_0 ?_ <;> assumption) | (with_reducible refine sk_F_inner ?_ <;> assumption)))
    · rw [if_neg x2]
      have cls : ∀ f : Int32, f = (if tyF v0 (i + 3) = 91 then 1 else 0) → jx (B_X8_ofInstance_120 N (FTE_ N d) m (cA v0 204 (i + 2)) m' (mI v0 m' 8) f w2) (F_inner N (FE_ N d') u) (NOq v0 u0 n j o l e) := by
        intro f hf
        refine ref (fun y hy => ?_)
        have r198 : ∀ {A : Int32 → CSt → Int32 → RSt → Prop} {C : Option (Sum Nat Int32 × CSt)}, (jx C (if mI v0 m' 8 = f then B_inner_274 N (FE_ N d') (g 1) (u0.2.2.1 3 (i + 2)) x f 1 y else B_inner_275 N (FE_ N d') (g 1) (u0.2.2.1 3 (i + 2)) x f 1 1 y) A) → jx C (B_inner_198 N (FE_ N d') (g 1) (u0.2.2.1 3 (i + 2)) x y) A := by
          intro A C hC
          have hC2 := jx_l hC
          refine jx_r ?_
          unfold B_inner_198
          rw [if_neg x1]
          unfold B_inner_209
          have go : pp (if y.1 69 = 0 then B_inner_241 N (FE_ N d') (g 1) (u0.2.2.1 3 (i + 2)) x f y else if y.1 67 = 0 then B_inner_242 N (FE_ N d') (g 1) (u0.2.2.1 3 (i + 2)) x f 1 y else B_inner_241 N (FE_ N d') (g 1) (u0.2.2.1 3 (i + 2)) x f y) (fun r x => pq C (fun y w => OFx A y w r x)) := by
            rw [if_neg (by rw [hy.sc (by decide)]; exact hj), if_pos hy.2.1]
            unfold B_inner_242 B_inner_264
            rw [if_neg (by decide), if_neg (by decide)]
            refine pp_rd ?_
            rw [hy.row (by decide), ← s2]
            exact hC2
          refine y_ok rfl (y_isNext hV.2.1 (t := 91) (by decide +kernel) hy hi2 (by rw [ht2]; exact nEnd (by decide) (by decide) (by decide)) (fun z => ?_) (fun z => ?_))
          · have z' : tyF v0 (i + 3) = 91 := z
            rw [if_pos z'] at hf
            subst hf
            exact go
          · have z' : ¬ tyF v0 (i + 3) = 91 := z
            rw [if_neg z'] at hf
            subst hf
            exact go
        refine r198 ?_
        unfold B_X8_ofInstance_120
        by_cases hs : mI v0 m' 8 = f
        · rw [if_pos hs, if_pos hs]
          unfold B_X8_ofInstance_132 B_inner_274 B_inner_275
          refine k2_next hV.1 g2 hi2 (fun w5 g5 => ?_)
          rw [g5.nm, hs]
          refine jx_r (y_ok rfl (y_adv hy (by omega) (fun x5 r5 => jx_l ?_)))
          rcases oF_r hD with ⟨z, q⟩ | ⟨z, q⟩
          · rw [hf, if_pos z, if_neg (by decide), if_neg (by decide), if_neg (by decide)]
            refine pq_ok (fun _ => k2_cost g5 (fun w6 g6 => ?_))
            refine jx_r (pp_rd (jx_l ?_))
            unfold B_inner_311
            refine jx_bt (j_ix12 hV ho hX q g6 r5 hi2 h0 h1) ?_ (fun _ _ => by repeat' (first | exact KP_some kp_rf | with_reducible refine KP_bn ?_ (fun _ _ => ?_) | with_reducible refine KP_if ?_ ?_ | with_reducible refine KP_rd (fun _ => ?_) | with_reducible refine KP_zr ?_ | (with_reducible refine KP_pu2 ?_ ?_; first | exact ks_sI (by decide) kp_rf | exact ks_sL kp_rf | exact ks_sA (by decide) kp_rf | exact ks_sB (by decide) kp_rf) | (with_reducible refine KP_wr2 ?_ ?_; first | exact ks_sA (by decide) kp_rf | exact ks_sB (by decide) kp_rf) | with_reducible exact h_ro _ _ _ _ | with_reducible exact sk_F_is | with_reducible exact sk_F_take | with_reducible exact sk_F_emit | with_reducible exact sk_F_wrong | with_reducible exact sk_F_cost | with_reducible exact sk_F_stuck | with_reducible exact sk_F_ends | with_reducible exact sk_F_begins | with_reducible exact sk_F_opens | with_reducible exact sk_F_has | with_reducible exact sk_F_isNumber | with_reducible exact sk_F_isNext | with_reducible exact sk_F_push | with_reducible exact sk_F_lead | with_reducible exact sk_F_here | with_reducible exact sk_F_kind | with_reducible exact sk_F_isKind | with_reducible exact sk_F_own | with_reducible exact sk_F_constant | with_reducible exact sk_F_bounded | with_reducible exact sk_F_joined | with_reducible exact sk_F_strength | with_reducible exact sk_F_leadAll | with_reducible exact sk_F_loop | with_reducible exact sk_F_label | with_reducible exact sk_F_leaves | with_reducible exact sk_F_telling | with_reducible exact sk_F_local | with_reducible exact sk_F_addSlot | with_reducible exact sk_F_addVariable | with_reducible exact sk_F_isTooWide | with_reducible exact sk_F_named | with_reducible exact sk_F_slotOf | with_reducible exact sk_F_bad | with_reducible exact sk_G_expression | with_reducible exact sk_G_spot | with_reducible exact sk_G_body | with_reducible exact sk_G_stat | (with_reducible refine sk_B_inner_192 ?_ ?_ <;> assumption) | (with_reducible refine sk_B_inner_387 ?_ <;> assumption) | (with_reducible refine sk_B_inner_369 ?_ <;> assumption) | (with_reducible refine sk_B_inner_348 ?_ <;> assumption) | (with_reducible refine sk_B_inner_315 ?_ <;> assumption) | (with_reducible refine sk_B_inner_311 ?_ <;> assumption) | (with_reducible refine sk_B_inner_275 ?_ <;> assumption) | (with_reducible refine sk_B_inner_274 ?_ <;> assumption) | (with_reducible refine sk_B_inner_264 ?_ <;> assumption) | (with_reducible refine sk_B_inner_242 ?_ <;> assumption) | (with_reducible refine sk_B_inner_241 ?_ <;> assumption) | (with_reducible refine sk_B_inner_209 ?_ <;> assumption) | (with_reducible refine sk_B_inner_198 ?_ <;> assumption) | (with_reducible refine sk_B_inner_102 ?_ ?_ <;> assumption) | (with_reducible refine sk_LP_inner_102 ?_ _ _ <;> assumption) | (with_reducible refine sk_B_inner_97 ?_ <;> assumption) | (with_reducible refine sk_B_inner_96 ?_ <;> assumption) | (with_reducible refine sk_B_inner_17 ?_ <;> assumption) | (with_reducible refine sk_B_inner_0 ?_ <;> assumption) | (with_reducible refine sk_F_inner ?_ <;> assumption)))
            rintro b7 w7 q7 x7 ⟨e', c', g7, r7, s7, hj7⟩
            refine pq_ok (fun _ => k2_step g7 (fun _ w8 g8 => pq_ok (fun _ => k2_step g8 (fun _ w9 g9 => pq_some ?_))))
            refine pp_m (y_315 r7) (fun r z hz => Or.inr ⟨_, rfl, ?_, ?_, e', _, g9, hz.2, s7, rfl, hj7⟩)
            · rw [g9.nm, hz.1]; exact s1
            · rw [g9.nm]; exact s3
          · have hk1 := oE_r q
            subst hk1
            rw [hf, if_neg z, if_pos rfl, if_pos rfl]
            refine pq_ok (fun _ => k2_step g5 (fun _ w6 g6 => pq_some ?_))
            refine pp_m (y_315 r5) (fun r z hz => Or.inr ⟨_, rfl, ?_, ?_, e, _, g6, hz.2, sfe_rf, rfl, hi2⟩)
            · rw [g6.nm, hz.1]; exact s1
            · rw [g6.nm]; exact s3
        · rw [if_neg hs, if_neg hs, hpl2]
          refine jx_ref ?_
          unfold B_inner_275
          exact y_bad hj hy (by decide) (by decide) (fun _ _ => by repeat' (first | exact KP_some kp_rf | with_reducible refine KP_bn ?_ (fun _ _ => ?_) | with_reducible refine KP_if ?_ ?_ | with_reducible refine KP_rd (fun _ => ?_) | with_reducible refine KP_zr ?_ | (with_reducible refine KP_pu2 ?_ ?_; first | exact ks_sI (by decide) kp_rf | exact ks_sL kp_rf | exact ks_sA (by decide) kp_rf | exact ks_sB (by decide) kp_rf) | (with_reducible refine KP_wr2 ?_ ?_; first | exact ks_sA (by decide) kp_rf | exact ks_sB (by decide) kp_rf) | with_reducible exact h_ro _ _ _ _ | with_reducible exact sk_F_is | with_reducible exact sk_F_take | with_reducible exact sk_F_emit | with_reducible exact sk_F_wrong | with_reducible exact sk_F_cost | with_reducible exact sk_F_stuck | with_reducible exact sk_F_ends | with_reducible exact sk_F_begins | with_reducible exact sk_F_opens | with_reducible exact sk_F_has | with_reducible exact sk_F_isNumber | with_reducible exact sk_F_isNext | with_reducible exact sk_F_push | with_reducible exact sk_F_lead | with_reducible exact sk_F_here | with_reducible exact sk_F_kind | with_reducible exact sk_F_isKind | with_reducible exact sk_F_own | with_reducible exact sk_F_constant | with_reducible exact sk_F_bounded | with_reducible exact sk_F_joined | with_reducible exact sk_F_strength | with_reducible exact sk_F_leadAll | with_reducible exact sk_F_loop | with_reducible exact sk_F_label | with_reducible exact sk_F_leaves | with_reducible exact sk_F_telling | with_reducible exact sk_F_local | with_reducible exact sk_F_addSlot | with_reducible exact sk_F_addVariable | with_reducible exact sk_F_isTooWide | with_reducible exact sk_F_named | with_reducible exact sk_F_slotOf | with_reducible exact sk_F_bad | with_reducible exact sk_G_expression | with_reducible exact sk_G_spot | with_reducible exact sk_G_body | with_reducible exact sk_G_stat | (with_reducible refine sk_B_inner_192 ?_ ?_ <;> assumption) | (with_reducible refine sk_B_inner_387 ?_ <;> assumption) | (with_reducible refine sk_B_inner_369 ?_ <;> assumption) | (with_reducible refine sk_B_inner_348 ?_ <;> assumption) | (with_reducible refine sk_B_inner_315 ?_ <;> assumption) | (with_reducible refine sk_B_inner_311 ?_ <;> assumption) | (with_reducible refine sk_B_inner_275 ?_ <;> assumption) | (with_reducible refine sk_B_inner_274 ?_ <;> assumption) | (with_reducible refine sk_B_inner_264 ?_ <;> assumption) | (with_reducible refine sk_B_inner_242 ?_ <;> assumption) | (with_reducible refine sk_B_inner_241 ?_ <;> assumption) | (with_reducible refine sk_B_inner_209 ?_ <;> assumption) | (with_reducible refine sk_B_inner_198 ?_ <;> assumption) | (with_reducible refine sk_B_inner_102 ?_ ?_ <;> assumption) | (with_reducible refine sk_LP_inner_102 ?_ _ _ <;> assumption) | (with_reducible refine sk_B_inner_97 ?_ <;> assumption) | (with_reducible refine sk_B_inner_96 ?_ <;> assumption) | (with_reducible refine sk_B_inner_17 ?_ <;> assumption) | (with_reducible refine sk_B_inner_0 ?_ <;> assumption) | (with_reducible refine sk_F_inner ?_ <;> assumption)))
      unfold B_X8_ofInstance_97
      refine k2_ahead (m := 1) hV.1 g2 (by decide) (by omega) ?_
      rw [g2.nm]
      by_cases z : tyF v0 (i + 2 + 1) = 91
      · rw [if_pos z]
        exact cls 1 (by rw [if_pos (show tyF v0 (i + 3) = 91 from z)])
      · rw [if_neg z]
        exact cls 0 (by rw [if_neg (show ¬ tyF v0 (i + 3) = 91 from z)])
  · rw [if_neg m1]
    refine jx_ref ?_
    unfold F_inner B_inner_0
    refine y_own hK h' ?_
    rw [if_pos m2]
    unfold B_inner_17
    refine y_rA h' (by decide) ?_
    rw [hpl]
    exact y_bad hj h' (by decide) (by decide) (fun _ _ => by repeat' (first | exact KP_some kp_rf | with_reducible refine KP_bn ?_ (fun _ _ => ?_) | with_reducible refine KP_if ?_ ?_ | with_reducible refine KP_rd (fun _ => ?_) | with_reducible refine KP_zr ?_ | (with_reducible refine KP_pu2 ?_ ?_; first | exact ks_sI (by decide) kp_rf | exact ks_sL kp_rf | exact ks_sA (by decide) kp_rf | exact ks_sB (by decide) kp_rf) | (with_reducible refine KP_wr2 ?_ ?_; first | exact ks_sA (by decide) kp_rf | exact ks_sB (by decide) kp_rf) | with_reducible exact h_ro _ _ _ _ | with_reducible exact sk_F_is | with_reducible exact sk_F_take | with_reducible exact sk_F_emit | with_reducible exact sk_F_wrong | with_reducible exact sk_F_cost | with_reducible exact sk_F_stuck | with_reducible exact sk_F_ends | with_reducible exact sk_F_begins | with_reducible exact sk_F_opens | with_reducible exact sk_F_has | with_reducible exact sk_F_isNumber | with_reducible exact sk_F_isNext | with_reducible exact sk_F_push | with_reducible exact sk_F_lead | with_reducible exact sk_F_here | with_reducible exact sk_F_kind | with_reducible exact sk_F_isKind | with_reducible exact sk_F_own | with_reducible exact sk_F_constant | with_reducible exact sk_F_bounded | with_reducible exact sk_F_joined | with_reducible exact sk_F_strength | with_reducible exact sk_F_leadAll | with_reducible exact sk_F_loop | with_reducible exact sk_F_label | with_reducible exact sk_F_leaves | with_reducible exact sk_F_telling | with_reducible exact sk_F_local | with_reducible exact sk_F_addSlot | with_reducible exact sk_F_addVariable | with_reducible exact sk_F_isTooWide | with_reducible exact sk_F_named | with_reducible exact sk_F_slotOf | with_reducible exact sk_F_bad | with_reducible exact sk_G_expression | with_reducible exact sk_G_spot | with_reducible exact sk_G_body | with_reducible exact sk_G_stat | (with_reducible refine sk_B_inner_192 ?_ ?_ <;> assumption) | (with_reducible refine sk_B_inner_387 ?_ <;> assumption) | (with_reducible refine sk_B_inner_369 ?_ <;> assumption) | (with_reducible refine sk_B_inner_348 ?_ <;> assumption) | (with_reducible refine sk_B_inner_315 ?_ <;> assumption) | (with_reducible refine sk_B_inner_311 ?_ <;> assumption) | (with_reducible refine sk_B_inner_275 ?_ <;> assumption) | (with_reducible refine sk_B_inner_274 ?_ <;> assumption) | (with_reducible refine sk_B_inner_264 ?_ <;> assumption) | (with_reducible refine sk_B_inner_242 ?_ <;> assumption) | (with_reducible refine sk_B_inner_241 ?_ <;> assumption) | (with_reducible refine sk_B_inner_209 ?_ <;> assumption) | (with_reducible refine sk_B_inner_198 ?_ <;> assumption) | (with_reducible refine sk_B_inner_102 ?_ ?_ <;> assumption) | (with_reducible refine sk_LP_inner_102 ?_ _ _ <;> assumption) | (with_reducible refine sk_B_inner_97 ?_ <;> assumption) | (with_reducible refine sk_B_inner_96 ?_ <;> assumption) | (with_reducible refine sk_B_inner_17 ?_ <;> assumption) | (with_reducible refine sk_B_inner_0 ?_ <;> assumption) | (with_reducible refine sk_F_inner ?_ <;> assumption)))
end Pl3
