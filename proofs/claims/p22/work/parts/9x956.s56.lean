/-! The second pass: Items. Lists of variables; places in the images. -/
/-- what lists of variables want of the state between two NAMEs -/
def IVb (ty : Nat → Int32) (n o : Nat) (Inv : CSt → RSt → Nat → Prop) : Prop := (∀ v u i, Inv v u i → EV1 v u n ∧ CE v v i 0 (eC v) ∧ (eC v).1 = 0 ∧ RE u u i o 0 (eR u) ∧ tyF v = ty) ∧ (∀ v u w x i j e c, Inv v u i → CE v w j 0 e → e.1 = 0 → RE u x j o 0 c → Inv w x j)
section Vl
variable {v w : CSt} {u x : RSt} {q s T G n i j o N : Nat} {e : E5} {c : R5} {kd how l1 so ip : Int32} {ty : Nat → Int32} {Inv : CSt → RSt → Nat → Prop}
theorem IG_b : IVb ty n o (IG ty q s n o) := by
  refine ⟨fun v u i h => ?_, fun v u w x i j e c h hc h0 hr => ?_⟩
  · obtain ⟨T, G, hI, hO, ht⟩ := h
    exact ⟨hI.1, hI.2.1, hI.2.2.2.1, hI.2.2.1, ht⟩
  · obtain ⟨T, G, hI, hO, ht⟩ := h
    exact ⟨T, G, IT_mv hI hc h0 hr, OWN0_mv hO hc hr, (tkC_ty (cfT_tk (M := []) (cfT_c hc.1))).trans ht⟩
theorem KD_ty {t : Int32} (h : 12 ≤ t ∧ t ≤ 16) : KD (t - 12) := by
  have e12 : (12 : Int32).toInt = 12 := by decide
  have e16 : (16 : Int32).toInt = 16 := by decide
  have h1 := Int32.le_iff_toInt_le.mp h.1
  have h2 := Int32.le_iff_toInt_le.mp h.2
  have ht : (t - 12).toInt = t.toInt - 12 := by rw [tI_sub (by omega) (by omega), e12]
  have a0 : (0 : Int32).toInt = 0 := by decide
  have a1 : (1 : Int32).toInt = 1 := by decide
  have a2 : (2 : Int32).toInt = 2 := by decide
  have a3 : (3 : Int32).toInt = 3 := by decide
  have a4 : (4 : Int32).toInt = 4 := by decide
  unfold KD
  simp only [tI_eq, ht, a0, a1, a2, a3, a4]
  omega
theorem nEk {t : Int32} (h : 12 ≤ t ∧ t ≤ 16) : ¬ isEnd t := by
  rintro (z | z | z)
  · rw [z] at h; exact absurd h.1 (by decide)
  · rw [z] at h; exact absurd h.2 (by decide)
  · rw [z] at h; exact absurd h.2 (by decide)
theorem j_varsT (hb : IVb ty n o Inv) (h1 : ∀ v u i j, Inv v u i → dVar ty i (.inr j) → i ≤ n → jx (F_X3_oneVariable N l1 how kd v) (F_one N kd so ip u) (fun _ w _ x => Inv w x j ∧ j ≤ n)) : ∀ m i j k v u M M', oWn (fun i => ty i = 44) (oN (dVar ty)) (oT ty 59) m i (.inr j) → Inv v u i → i ≤ n → k ≤ i → jx (LP_X3_variables_18 N M (l1, how, kd, Int32.ofNat k, v)) (LP_variables_22 N M' (so, ip, kd, u)) (fun _ w _ x => Inv w x j ∧ j ≤ n) := by
  have e15 : (1500 : Int32).toInt = 1500 := by decide
  intro m
  induction m with
  | zero =>
    rintro i j k v u M M' ⟨z, hD⟩ hI hi hk
    obtain ⟨hV, h, h0, h', hty⟩ := hb.1 v u i hI
    have z : ¬ ty i = 44 := z
    obtain ⟨t1, rfl⟩ := oT_r hD
    rw [← hty] at z t1
    have hil := hV.lt hi (by rw [t1]; exact nEnd (by decide) (by decide) (by decide))
    cases M with
    | zero => exact jx_n1 rfl
    | succ M =>
      cases M' with
      | zero => exact jx_n2 rfl
      | succ M' =>
        show jx (B_X3_variables_18 N (LP_X3_variables_18 N M) l1 how kd (Int32.ofNat k) v) (B_variables_22 N (LP_variables_22 N M') so ip kd u) _
        unfold B_X3_variables_18 B_variables_22
        have fin : jx (B_X3_variables_58 N v) (bn (F_has N 230 u) fun r_2 u_1 => if r_2 = (0 : Int32) then (bn (F_take N 229 u_1) fun _ u_4 => some (0, u_4)) else (bn (F_one N kd so ip u_1) fun _ u_5 => LP_variables_22 N M' (so, ip, kd, u_5))) (fun _ w _ x => Inv w x (i + 1) ∧ i + 1 ≤ n) := by
          unfold B_X3_variables_58
          refine k2_next hV.1 h hil (fun w1 g1 => ?_)
          refine jx_r (y_has hV.2.1 (t := 44) (by decide +kernel) (nEnd (by decide) (by decide) (by decide)) h' hi (fun y => absurd y z) (fun _ => ?_))
          rw [if_pos rfl]
          refine y_take hV.2.1 (t := 59) (by decide +kernel) h' hil t1 (fun x1 r1 => ?_)
          exact pp_some (pq_some (Or.inr ⟨0, rfl, hb.2 v u w1 x1 i (i + 1) _ _ hI g1 h0 r1, hil⟩))
        exact pq_if (fun _ => fin) (fun _ => k2_if h (fun y => absurd y z) (fun _ => fin))
  | succ m ih =>
    rintro i j k v u M M' ⟨z, hD⟩ hI hi hk
    obtain ⟨hV, h, h0, h', hty⟩ := hb.1 v u i hI
    have z : ty i = 44 := z
    obtain ⟨k1, p1, p2⟩ := oS_r hD
    have z2 : tyF v i = 44 := by rw [hty]; exact z
    have hn2 := hV.2.1.2.2
    have hil := hV.lt hi (by rw [z2]; exact nEnd (by decide) (by decide) (by decide))
    have ki := ofN_i (k := k) (by omega)
    cases M with
    | zero => exact jx_n1 rfl
    | succ M =>
      cases M' with
      | zero => exact jx_n2 rfl
      | succ M' =>
        show jx (B_X3_variables_18 N (LP_X3_variables_18 N M) l1 how kd (Int32.ofNat k) v) (B_variables_22 N (LP_variables_22 N M') so ip kd u) _
        unfold B_X3_variables_18 B_variables_22
        rw [if_neg (fun y => by have := Int32.le_iff_toInt_le.mp y; rw [e15] at this; omega)]
        refine k2_if h (fun _ => ?_) (fun y => absurd z2 y)
        refine k2_next hV.1 h hil (fun w1 g1 => ?_)
        refine jx_r (y_has hV.2.1 (t := 44) (by decide +kernel) (nEnd (by decide) (by decide) (by decide)) h' hi (fun _ _ x1 r1 => ?_) (fun y => absurd z2 y))
        rw [if_neg (by decide)]
        refine jx_l ?_
        have hI1 := hb.2 v u w1 x1 i (i + 1) _ _ hI g1 h0 r1
        refine jx_bt (h1 w1 x1 (i + 1) k1 hI1 p1 hil) ?_ (fun _ _ => sk_LP_variables_22 _ _)
        rintro b w r x ⟨hI2, hk1⟩
        rw [ofN1 (by omega)]
        have hgt : i + 1 < k1 := pg_Var _ _ p1
        exact ih k1 j (k + 1) w x M M' p2 hI2 hk1 (by omega)
/-- KIND and a list of variables -/
theorem j_varsK (hb : IVb ty n o Inv) (h1 : ∀ kd, KD kd → ∀ v u i j, Inv v u i → dVar ty i (.inr j) → i ≤ n → jx (F_X3_oneVariable N l1 how kd v) (F_one N kd so ip u) (fun _ w _ x => Inv w x j ∧ j ≤ n)) (hI : Inv v u i) (hD : dVars ty i (.inr j)) (hi : i < n) (hc : CE v w (i + 1) 0 (eC v)) : jx (F_X3_variables N l1 how w) (F_variables N so ip u) (fun _ w _ x => Inv w x j ∧ j ≤ n) := by
  obtain ⟨hV, h, h0, h', hty⟩ := hb.1 v u i hI
  obtain ⟨k1, p1, p2⟩ := oS_r (show oS (oKd ty) (oS (dVar ty) (dVl ty)) (i + 1) (.inr j) from hD)
  obtain ⟨tk, rfl⟩ := oK_r p1
  obtain ⟨k2, p3, m, p4⟩ := oS_r p2
  have tk2 : 12 ≤ tyF v (i + 1) ∧ tyF v (i + 1) ≤ 16 := by rw [hty]; exact tk
  have hi1 : i + 1 < n := hV.lt (i := i + 1) hi (nEk tk2)
  have hn2 := hV.2.1.2.2
  unfold F_X3_variables B_X3_variables_0 F_variables B_variables_0
  refine k2_kind hV.1 hc hi1 (fun w1 g1 => ?_)
  refine jx_r (y_adv h' (by omega) (fun x1 r1 => y_kind hV.2.1 r1 hi1 tk2 (fun x2 r2 => jx_l ?_)))
  have hI1 := hb.2 v u w1 x2 i (i + 1 + 1) _ _ hI g1 h0 r2
  have hkd := KD_ty tk2
  refine jx_bt (h1 _ hkd w1 x2 (i + 1 + 1) k2 hI1 p3 hi1) ?_ (fun _ _ => sk_LP_variables_22 _ _)
  rintro b w r x ⟨hI2, hk2⟩
  exact j_varsT hb (h1 _ hkd) m k2 j 0 w x N N p4 hI2 hk2 (Nat.zero_le _)
/-- var, keep -/
theorem j_vars (hI : IG ty q s n o v u i) (hD : dVars ty i (.inr j)) (hi : i < n) (ho : o < 24) (hhow : how = 0 ∨ how = 1) (hc : CE v w (i + 1) 0 (eC v)) : jx (F_X3_variables N 0 how w) (F_variables N how 0 u) (IQ ty q s n j o) := by
  refine j_varsK IG_b (fun kd hkd v u i j hI hD hi => ?_) hI hD hi hc
  obtain ⟨T, G, hIT, hO, rfl⟩ := hI
  exact j_oneG hIT hO hD hi ho hkd hhow
/-- in, out -/
theorem y_addI {Q : Int32 → RSt → Prop} {at_ l1 : Int32} {nm : Nat} (hj : ¬ x.1 69 = 0) (h0 : x.1 67 = 0) (hso : how = 2 ∨ how = 3) (hn : l1.toNatClampNeg = nm) (kk : ∀ y, AVr x y nm kd how 1 0 at_ ((if how = 2 then 6000 else 5000) + at_) 0 → Q 0 y) : pp (F_addVariable N l1 kd how 1 0 at_ 0 x) Q := by
  unfold F_addVariable B_addVariable_0
  rw [if_neg hj, if_pos (by rcases hso with z | z <;> (rw [z]; decide))]
  refine pp_m (y_av51 hj h0 hn) (fun r z hz => ?_)
  rw [hz.1]
  have h2 := hz.2
  rw [if_neg (by rcases hso with z | z <;> (rw [z]; decide))] at h2
  refine kk z ?_
  by_cases y : how = 2
  · rw [if_pos y] at h2 ⊢
    exact h2
  · rw [if_neg y] at h2 ⊢
    exact h2
theorem bitsK (h : KD kd) : bt_0.getD kd.toNatClampNeg 0 = r_bits kd ∧ 0 ≤ (64 - r_bits kd / 8).toInt := by
  rcases h with h | h | h | h | h <;> (rw [h]; decide)
theorem j_placed (hI : IG ty q s n o v u i) (hD : dPlc ty i (.inr j)) (hi : i < n) (hhow : how = 2 ∨ how = 3) (hc : CE v w (i + 1) 0 (eC v)) : jx (F_X3_placed N how w) (F_image N how u) (IQ ty q s n j o) := by
  obtain ⟨T, G, hIT, hO, rfl⟩ := hI
  have hV := hIT.1
  have h' := hIT.2.2.1
  have hn2 := hV.2.1.2.2
  obtain ⟨k1, p1, p2⟩ := oS_r (show oS (oKd (tyF v)) (oS (oT (tyF v) 128) (oS (oT (tyF v) 5) (oS (oT (tyF v) 129) (oT (tyF v) 59)))) (i + 1) (.inr j) from hD)
  obtain ⟨tk, rfl⟩ := oK_r p1
  obtain ⟨k2, p3, p4⟩ := oS_r p2
  obtain ⟨t2, rfl⟩ := oT_r p3
  obtain ⟨k3, p5, p6⟩ := oS_r p4
  obtain ⟨t3, rfl⟩ := oT_r p5
  obtain ⟨k4, p7, p8⟩ := oS_r p6
  obtain ⟨t4, rfl⟩ := oT_r p7
  obtain ⟨t5, rfl⟩ := oT_r p8
  have hi1 : i + 1 < n := hV.lt (i := i + 1) hi (nEk tk)
  have hi2 : i + 1 + 1 < n := hV.lt (i := i + 1 + 1) hi1 (by rw [t2]; exact nEnd (by decide) (by decide) (by decide))
  have hi3 : i + 1 + 1 + 1 < n := hV.lt (i := i + 1 + 1 + 1) hi2 (by rw [t3]; exact nEnd (by decide) (by decide) (by decide))
  have hi4 : i + 1 + 1 + 1 + 1 < n := hV.lt (i := i + 1 + 1 + 1 + 1) hi3 (by rw [t4]; exact nEnd (by decide) (by decide) (by decide))
  have hi5 : i + 1 + 1 + 1 + 1 + 1 < n := hV.lt (i := i + 1 + 1 + 1 + 1 + 1) hi4 (by rw [t5]; exact nEnd (by decide) (by decide) (by decide))
  have hkd := KD_ty tk
  unfold F_X3_placed B_X3_placed_0 F_image B_image_0
  refine k2_kind hV.1 hc hi1 (fun w1 g1 => ?_)
  refine jx_r (y_adv h' (by omega) (fun x1 r1 => y_kind hV.2.1 r1 hi1 tk (fun x2 r2 => ?_)))
  have hI1 := IT_mv hIT g1 hIT.2.2.2.1 r2
  have hO1 := OWN0_mv hO g1 r2
  have ty1 : tyF w1 = tyF v := tkC_ty (cfT_tk (M := []) (cfT_c g1.1))
  generalize tyF v (i + 1) - 12 = kd at hkd ⊢
  rw [← ty1] at t2 t3 t4 t5 ⊢
  clear g1 r2 hIT hO hc h' hV
  obtain ⟨hV, h, h', h16, hTR, hT2⟩ := hI1
  obtain ⟨t1, t2', t3', t4', t5a, t5', t6, t7, t8, t9, t10, t11, t12, t13, t14, t15, t16, t17⟩ := id hTR
  obtain ⟨s1, s2, s3, s4, s5, s6, s7⟩ := id hT2
  obtain ⟨c0, c1, c2, c3, c4, c5, c6, c7, c8, c9, c10⟩ := id s2
  have hj := hV.2.2.2.2.1
  have k19 : (x2.2.2.1 19 s).toInt = ((x2.2.2.1 19 s).toInt.toNat : Nat) := by omega
  have e160 : (bt_1.getD 0 0).toInt = 160 := by decide
  refine y_is hV.2.1 (t := 128) (by decide +kernel) h' (Nat.le_of_lt hi2) (fun _ => ?_) (fun y => absurd t2 y)
  rw [if_neg (by decide)]
  refine pp_rd ?_
  rw [n_of t6]
  refine jx_l ?_
  refine j_newG (so := 0) (sn := 0) (k0 := (x2.2.2.1 19 s).toInt.toNat) hV hTR h h' hi2 t2 (by decide) (by omega) (by rw [c0]; exact k19) (by omega) (fun hT => ⟨fun _ => by rw [e160]; omega, fun _ => rfl⟩) (fun w3 x3 hT _ f1 f2 hN hC hX => ?_) (fun _ _ => by repeat' (first | exact KP_some kp_rf | with_reducible refine KP_bn ?_ (fun _ _ => ?_) | with_reducible refine KP_if ?_ ?_ | with_reducible refine KP_rd (fun _ => ?_) | with_reducible refine KP_zr ?_ | (with_reducible refine KP_pu2 ?_ ?_; first | exact ks_sI (by decide) kp_rf | exact ks_sL kp_rf | exact ks_sA (by decide) kp_rf | exact ks_sB (by decide) kp_rf) | (with_reducible refine KP_wr2 ?_ ?_; first | exact ks_sA (by decide) kp_rf | exact ks_sB (by decide) kp_rf) | with_reducible exact h_ro _ _ _ _ | with_reducible exact sk_F_is | with_reducible exact sk_F_take | with_reducible exact sk_F_emit | with_reducible exact sk_F_wrong | with_reducible exact sk_F_cost | with_reducible exact sk_F_stuck | with_reducible exact sk_F_ends | with_reducible exact sk_F_begins | with_reducible exact sk_F_opens | with_reducible exact sk_F_has | with_reducible exact sk_F_isNumber | with_reducible exact sk_F_isNext | with_reducible exact sk_F_push | with_reducible exact sk_F_lead | with_reducible exact sk_F_here | with_reducible exact sk_F_kind | with_reducible exact sk_F_isKind | with_reducible exact sk_F_own | with_reducible exact sk_F_constant | with_reducible exact sk_F_bounded | with_reducible exact sk_F_joined | with_reducible exact sk_F_strength | with_reducible exact sk_F_leadAll | with_reducible exact sk_F_loop | with_reducible exact sk_F_label | with_reducible exact sk_F_leaves | with_reducible exact sk_F_telling | with_reducible exact sk_F_local | with_reducible exact sk_F_addSlot | with_reducible exact sk_F_addVariable | with_reducible exact sk_F_isTooWide | with_reducible exact sk_F_named | with_reducible exact sk_F_slotOf | with_reducible exact sk_F_bad | with_reducible exact sk_G_expression | with_reducible exact sk_G_spot | with_reducible exact sk_G_body | with_reducible exact sk_G_stat | with_reducible exact sk_B_image_0 | with_reducible exact sk_F_image))
  have hr0 : RE x3 x3 (i + 1 + 1) o 0 (eR x2) := TLr_re hX h'
  have hV3 : EV1 w3 x3 n := hV.tr (NGc_tk hN) (TLr_tk hX)
  have ty3 : tyF w3 = tyF w1 := tkC_ty (NGc_tk hN)
  have hm : 169 * q + T ∈ [169 * q + T] := List.mem_singleton.mpr rfl
  refine pq_ok (fun _ => pq_pc (pq_pc (pq_pc ?_)))
  have D0 : DCl w3 (xmI (xmI (xmI w3 (169 * q + T) 6 how) (169 * q + T) 5 kd) (169 * q + T) 7 1) (169 * q + T) how kd 1 0 0 := by
    obtain ⟨g1, g2, g3, g4, g5, g6, g7, g8, g9, g10, g11, g12⟩ := hN.2.2.2.2.2.2.2.2.2.2.2.1
    refine ⟨cfT_tr (cfT_tr (cfT_mI hm) (cfT_mI hm)) (cfT_mI hm), ?_, ?_, mI_eq, ?_, g2, fun k hk => ?_, rfl⟩
    · rw [mI_ne (Or.inr (by decide)), mI_ne (Or.inr (by decide)), mI_eq]
    · rw [mI_ne (Or.inr (by decide)), mI_eq]
    · rw [mI_ne (Or.inr (by decide)), mI_ne (Or.inr (by decide)), mI_ne (Or.inr (by decide))]
      exact g8
    · simp only [List.mem_cons, List.not_mem_nil, or_false, not_or] at hk
      rw [mI_ne (Or.inr hk.2.2.1), mI_ne (Or.inr hk.1), mI_ne (Or.inr hk.2.1)]
  have C0 : CE (xmI (xmI (xmI w3 (169 * q + T) 6 how) (169 * q + T) 5 kd) (169 * q + T) 7 1) (xmI (xmI (xmI w3 (169 * q + T) 6 how) (169 * q + T) 5 kd) (169 * q + T) 7 1) (i + 1 + 1 + 1) 0 (eC w1) := CE_mI (CE_mI (CE_mI hC))
  generalize xmI (xmI (xmI w3 (169 * q + T) 6 how) (169 * q + T) 5 kd) (169 * q + T) 7 1 = w4 at D0 C0 ⊢
  have hV4 : EV1 w4 x3 n := hV3.tr (cfT_tk D0.1) tkR_rf
  have ty4 : tyF w4 = tyF w1 := (tkC_ty (cfT_tk D0.1)).trans ty3
  refine k2_next hV4.1 C0 hi3 (fun w5 g5 => pq_rd ?_)
  rw [(bitsK hkd).1]
  refine jx_r (y_adv hr0 (by omega) (fun x5 r5 => ?_))
  refine y_take hV3.2.1 (t := 5) (by decide +kernel) r5 hi3 (by rw [ty3]; exact t3) (fun x6 r6 => jx_l ?_)
  refine i_bounded hV4 g5 r6 hi4 (by rw [ty4]; exact t4) (by decide) rfl (fun y w7 x7 y1 y2 g7 r7 => ?_) (fun _ _ => by repeat' (first | exact KP_some kp_rf | with_reducible refine KP_bn ?_ (fun _ _ => ?_) | with_reducible refine KP_if ?_ ?_ | with_reducible refine KP_rd (fun _ => ?_) | with_reducible refine KP_zr ?_ | (with_reducible refine KP_pu2 ?_ ?_; first | exact ks_sI (by decide) kp_rf | exact ks_sL kp_rf | exact ks_sA (by decide) kp_rf | exact ks_sB (by decide) kp_rf) | (with_reducible refine KP_wr2 ?_ ?_; first | exact ks_sA (by decide) kp_rf | exact ks_sB (by decide) kp_rf) | with_reducible exact h_ro _ _ _ _ | with_reducible exact sk_F_is | with_reducible exact sk_F_take | with_reducible exact sk_F_emit | with_reducible exact sk_F_wrong | with_reducible exact sk_F_cost | with_reducible exact sk_F_stuck | with_reducible exact sk_F_ends | with_reducible exact sk_F_begins | with_reducible exact sk_F_opens | with_reducible exact sk_F_has | with_reducible exact sk_F_isNumber | with_reducible exact sk_F_isNext | with_reducible exact sk_F_push | with_reducible exact sk_F_lead | with_reducible exact sk_F_here | with_reducible exact sk_F_kind | with_reducible exact sk_F_isKind | with_reducible exact sk_F_own | with_reducible exact sk_F_constant | with_reducible exact sk_F_bounded | with_reducible exact sk_F_joined | with_reducible exact sk_F_strength | with_reducible exact sk_F_leadAll | with_reducible exact sk_F_loop | with_reducible exact sk_F_label | with_reducible exact sk_F_leaves | with_reducible exact sk_F_telling | with_reducible exact sk_F_local | with_reducible exact sk_F_addSlot | with_reducible exact sk_F_addVariable | with_reducible exact sk_F_isTooWide | with_reducible exact sk_F_named | with_reducible exact sk_F_slotOf | with_reducible exact sk_F_bad | with_reducible exact sk_G_expression | with_reducible exact sk_G_spot | with_reducible exact sk_G_body | with_reducible exact sk_G_stat | with_reducible exact sk_B_image_0 | with_reducible exact sk_F_image))
  refine pq_pc ?_
  have D7 : DCl w3 w7 (169 * q + T) how kd 1 0 0 := by
    obtain ⟨d1, d2, d3, d4, d5, d6, d7, d8⟩ := D0
    exact ⟨cfT_tr d1 (cfT_c g7.1), by rw [cfr_m g7.1]; exact d2, by rw [cfr_m g7.1]; exact d3, by rw [cfr_m g7.1]; exact d4, by rw [cfr_m g7.1]; exact d5, by rw [cfr_l g7.1]; exact d6, fun k hk => by rw [cfr_m g7.1]; exact d7 k hk, by rw [cfr_l g7.1]; exact d8⟩
  have C8 : CE (xmI w7 (169 * q + T) 9 y.toInt32) (xmI w7 (169 * q + T) 9 y.toInt32) (i + 1 + 1 + 1 + 1 + 1) 0 (eC w1) := CE_mI (CE_b g7)
  have hV8 : EV1 (xmI w7 (169 * q + T) 9 y.toInt32) x3 n := hV4.tr (tkC_tr (cfT_tk (M := []) (cfT_c g7.1)) (cfT_tk (cfT_mI hm))) tkR_rf
  refine k2_next hV8.1 C8 hi5 (fun w9 g9 => ?_)
  refine jx_r (y_take hV3.2.1 (t := 59) (by decide +kernel) r7 hi5 (by rw [ty3]; exact t5) (fun x9 r9 => ?_))
  have x69 : ¬ x9.1 69 = 0 := by rw [r9.sc (by decide), hX.1 69 (by decide)]; exact hj
  refine pp_bn (y_addI x69 r9.2.1 hhow h'.nat (fun x10 hA => ?_))
  refine pp_some (pq_some (Or.inr ⟨0, rfl, ?_⟩))
  have eI1 : (1 : Int32).toInt = 1 := by decide
  have y1' : ¬ y.toInt < (0 : Int64).toInt := fun q => y1 (Int64.lt_iff_toInt_lt.mpr q)
  have eL0 : (0 : Int64).toInt = 0 := by decide
  have y2' : y.toInt ≤ (64 - r_bits kd / 8).toInt64.toInt := Int64.le_iff_toInt_le.mp y2
  rw [Int32.toInt_toInt64] at y2'
  have b64 : (64 - r_bits kd / 8).toInt ≤ 64 := by rcases hkd with h | h | h | h | h <;> (rw [h]; decide)
  have ysz : y.toInt32.toInt = y.toInt := by
    rw [Int64.toInt_toInt32]
    exact Int.bmod_eq_of_le (by omega) (by omega)
  have n9 : mI w9 (169 * q + T) 9 = y.toInt32 := by rw [cfr_m g9.1]; exact mI_eq
  have e12 : cI w9 12 = cI w1 12 := by
    have z1 : cI w9 12 = cI w7 12 := g9.1.1 12 (by decide)
    have z2 : cI w7 12 = cI w3 12 := D7.1.1 12 (by decide)
    exact z1.trans (z2.trans (hN.1 12 (by decide)))
  have e228 : cA w9 228 = cA w1 228 := by
    have z1 : cA w9 228 = cA w7 228 := g9.1.2.1 228 (by decide)
    have z2 : cA w7 228 = cA w3 228 := D7.1.2.1 228 (by decide)
    exact z1.trans (z2.trans (hN.2.1 228 (by decide)))
  have F : FX [61, 62, 63, 65, 66, 67, 68, 74, 78, 80, 81] [10, 11, 12, 13, 14, 15, 19, 49, 50, 51, 54, 59, 60, 75, 76] [16, 17, 18, 52, 53, 57, 58] x2 x10 := by
    refine FX.tr (FX.mo (TLr_fx hX) ?_ ?_ ?_) (FX.tr (FX.mo (FX_r r9.1) ?_ ?_ ?_) (FX.mo (AVr_fx hA) ?_ ?_ ?_)) <;> decide
  have nu : NUM w9 x10 := by
    unfold NUM
    have z63 : x10.1 63 = x2.1 63 := by
      have z1 := hA.2.2.2.2.2.2.2.2.2.2.2.2.2
      rw [if_neg (by rcases hhow with z | z <;> (rw [z]; decide))] at z1
      rw [z1, r9.sc (by decide), hX.1 63 (by decide)]
      exact Int32.add_zero _
    rw [e228, e12, F.2.1 64 (by decide), z63]
    exact s3
  refine IT_var (w2 := w7) (x2' := x9) hV hTR hT2 hO1 hT k19 ((hV.2.2.1 _ hi2).2.2.2.2 t2) f1 f2 hN hX D7 r9.1 (CE_b g9) h16 r9 hi5 hkd (Or.inl rfl) (by rw [eI1]; omega) (by rw [eI1]; omega) ⟨⟨g9.1.1 4 (by decide), g9.1.1 7 (by decide)⟩, fun k hk => g9.1.2.1 k (fun z => by simp only [List.mem_cons, List.not_mem_nil, or_false] at hk z; omega), g9.1.2.2.1, fun p k hk => g9.1.2.2.2.1 p k hk, fun p k hk => g9.1.2.2.2.2.1 p k hk, ?_, ?_, fun p k hk => ?_, fun p k => ?_⟩ FX.rf hA nu (by rw [e12]; exact Int.le_refl _) (Or.inr ⟨hhow, rfl, rfl, n9.symm, by rw [n9], by rw [n9]; omega, by rw [n9]; omega⟩)
  · show w9.2.2.2.2.2.2.2.1 = _
    rw [g9.1.2.2.2.2.2]
    rfl
  · show w9.2.2.2.2.2.2.2.2.2.2 = _
    rw [g9.1.2.2.2.2.2]
    rfl
  · rw [cfr_m g9.1]
    exact mI_ne (by omega)
  · rw [cfr_l g9.1]
    rfl
end Vl
