/-! The second pass: Items. Blocks and functions. -/
/-- the reference's tables of a routine that begins: its number b, its count in the row R -/
def PTr (x y : RSt) (b i R : Nat) (wh wc kd : Int32) : Prop := (∀ k, k ∉ [70, 71, 72, 73, 74] → y.1 k = x.1 k) ∧ y.1 70 = wh ∧ y.1 71 = wc ∧ y.1 72 = x.2.2.1 27 (x.1 56).toNatClampNeg ∧ y.1 73 = 0 ∧ y.1 74 = 0 ∧ (∀ k, k ∉ [28, 29, 30, 31, 33, R] → y.2.2.1 k = x.2.2.1 k) ∧ (∀ k, k ∉ [34, 35] → y.2.2.2 k = x.2.2.2 k) ∧ y.2.2.2 34 = vp_updL (x.2.2.2 34) b (x.2.2.2 6 i) ∧ y.2.2.2 35 = vp_updL (x.2.2.2 35) b (x.2.2.2 7 i) ∧ y.2.2.1 33 = upd (x.2.2.1 33) b kd ∧ y.2.2.1 28 = upd (x.2.2.1 28) b (x.2.2.1 27 (x.1 56).toNatClampNeg) ∧ y.2.2.1 29 = upd (x.2.2.1 29) b 0 ∧ y.2.2.1 30 = upd (x.2.2.1 30) b 0 ∧ y.2.2.1 31 = upd (x.2.2.1 31) b 0 ∧ y.2.2.1 R = upd (x.2.2.1 R) (x.1 56).toNatClampNeg (x.2.2.1 R (x.1 56).toNatClampNeg + 1)
section Rt
variable {v w : CSt} {u x y : RSt} {q s T G n i j o l N r K F P m b R k0 : Nat} {e : E5} {c : R5} {kd kr f so wc : Int32} {ty : Nat → Int32}
theorem y_part {Q : Int32 → RSt → Prop} (h' : RE x x i o l c) (hj : ¬ x.1 69 = 0) (hb : wc.toNatClampNeg = b) (hf : (f = 0 ∧ R = 36) ∨ (f = 1 ∧ R = 37)) (kk : ∀ y, PTr x y b i R (if f = 0 then 2 else 3) wc kr → pp (B_part_300 N f kr y) Q) : pp (B_part_125 N f kr wc x) Q := by
  have ni := h'.nat
  rcases hf with ⟨hf, hR⟩ | ⟨hf, hR⟩
  · subst hf hR
    unfold B_part_125 B_part_138
    refine pp_pu ?_
    rw [if_pos rfl]
    refine pp_pu (pp_rd (pp_pu (pp_pu (pp_pu ?_))))
    refine pp_if (fun z => absurd z hj) (fun _ => pp_if (fun _ => ?_) (fun z => absurd h'.2.1 z))
    refine pp_rd (pp_wr (pp_rd (pp_wr (pp_wr (pp_wr (pp_wr (pp_wr (pp_wr ?_))))))))
    rw [if_pos rfl]
    refine pp_rd (pp_wr (kk _ ?_))
    rw [← hb, ← ni, if_pos rfl]
    refine ⟨fun k hk => ?_, rfl, rfl, rfl, rfl, rfl, fun k hk => ?_, fun k hk => ?_, rfl, rfl, rfl, rfl, rfl, rfl, rfl, rfl⟩
    · simp only [List.mem_cons, List.not_mem_nil, or_false, not_or] at hk
      show (sI (sI (sI (sI (sI x 71 _) 70 _) 72 _) 73 _) 74 _).1 k = _
      rw [sI_1, if_neg hk.2.2.2.2, sI_1, if_neg hk.2.2.2.1, sI_1, if_neg hk.2.2.1, sI_1, if_neg hk.1, sI_1, if_neg hk.2.1]
    · simp only [List.mem_cons, List.not_mem_nil, or_false, not_or] at hk
      rw [sA_3, if_neg hk.2.2.2.2.2, sA_3, if_neg hk.2.2.2.1, sA_3, if_neg hk.2.2.1, sA_3, if_neg hk.2.1, sA_3, if_neg hk.1, sA_3, if_neg hk.2.2.2.2.1]
      rfl
    · simp only [List.mem_cons, List.not_mem_nil, or_false, not_or] at hk
      show (sB (sB _ 34 _ _) 35 _ _).2.2.2 k = _
      rw [sB_4, if_neg hk.2, sB_4, if_neg hk.1]
      rfl
  · subst hf hR
    unfold B_part_125 B_part_138
    refine pp_pu ?_
    rw [if_neg (by decide)]
    refine pp_pu (pp_rd (pp_pu (pp_pu (pp_pu ?_))))
    refine pp_if (fun z => absurd z hj) (fun _ => pp_if (fun _ => ?_) (fun z => absurd h'.2.1 z))
    refine pp_rd (pp_wr (pp_rd (pp_wr (pp_wr (pp_wr (pp_wr (pp_wr (pp_wr ?_))))))))
    rw [if_neg (by decide)]
    refine pp_rd (pp_wr (kk _ ?_))
    rw [← hb, ← ni, if_neg (by decide)]
    refine ⟨fun k hk => ?_, rfl, rfl, rfl, rfl, rfl, fun k hk => ?_, fun k hk => ?_, rfl, rfl, rfl, rfl, rfl, rfl, rfl, rfl⟩
    · simp only [List.mem_cons, List.not_mem_nil, or_false, not_or] at hk
      show (sI (sI (sI (sI (sI x 71 _) 70 _) 72 _) 73 _) 74 _).1 k = _
      rw [sI_1, if_neg hk.2.2.2.2, sI_1, if_neg hk.2.2.2.1, sI_1, if_neg hk.2.2.1, sI_1, if_neg hk.1, sI_1, if_neg hk.2.1]
    · simp only [List.mem_cons, List.not_mem_nil, or_false, not_or] at hk
      rw [sA_3, if_neg hk.2.2.2.2.2, sA_3, if_neg hk.2.2.2.1, sA_3, if_neg hk.2.2.1, sA_3, if_neg hk.2.1, sA_3, if_neg hk.1, sA_3, if_neg hk.2.2.2.2.1]
      rfl
    · simp only [List.mem_cons, List.not_mem_nil, or_false, not_or] at hk
      show (sB (sB _ 34 _ _) 35 _ _).2.2.2 k = _
      rw [sB_4, if_neg hk.2, sB_4, if_neg hk.1]
      rfl
theorem IT_15 {a : Int32} (hI : IT v u q s n i o T G) (ha : a.toInt < 0) : IT (xpI v q 15 a) (sI u 70 0) q s n i o T G ∧ OWN0 (xpI v q 15 a) (sI u 70 0) q := by
  obtain ⟨hV, h, h', h16, hTR, hT2⟩ := hI
  have hn : ∀ y, CNa v (xpI v q 15 a) q y := fun y => ⟨fun k hk => rfl, fun _ => rfl⟩
  have F : FX [70] [] [] u (sI u 70 0) := FX.rf.si (by decide)
  refine ⟨⟨hV.tr ⟨rfl, rfl, rfl, rfl, rfl, rfl, rfl, rfl⟩ ⟨rfl, rfl, rfl, rfl, rfl, rfl, rfl⟩, ⟨cfr_rf, h.2.1, h.2.2.1, rfl⟩, ⟨rfr_rf, h'.2.1, h'.2.2.1, h'.2.2.2.1, h'.2.2.2.2.1, rfl⟩, h16, TR_cong hTR hn (pI_ne (Or.inr (by decide))) rfl rfl F (by decide) (by decide) (by decide), TR2_cong hTR hT2 hn rfl rfl (fun _ _ => rfl) rfl F (by decide) (by decide) (by decide)⟩, ?_, ?_⟩
  · rw [pI_eq]
    exact ha
  · show (0 : Int32) ≤ 1
    decide
theorem IL_32 {a : Int32} {y : Nat} (h : IL ty q s n o r v u i) : IL ty q s n o r v (sA u 32 y a) i := by
  obtain ⟨T, G, K, F, P, ⟨hV, h, h', h16, hTR, hT2⟩, hO, ht⟩ := h
  have hn : ∀ y, CNa v v q y := fun y => ⟨fun k hk => rfl, fun _ => rfl⟩
  have Fr : FX [] [32] [] u (sA u 32 y a) := FX.rf.sa (by decide)
  exact ⟨T, G, K, F, P, ⟨hV.tr tkC_rf ⟨rfl, rfl, rfl, rfl, rfl, rfl, rfl⟩, h, ⟨rfr_rf, h'.2.1, h'.2.2.1, h'.2.2.2.1, h'.2.2.2.2.1, rfl⟩, h16, TR_cong hTR hn rfl rfl rfl Fr (by decide) (by decide) (by decide), TR2_cong hTR hT2 hn rfl rfl (fun _ _ => rfl) rfl Fr (by decide) (by decide) (by decide)⟩, OPN_cong hO hn rfl Fr (by decide) (by decide) (by decide), ht⟩
/-- Stats and the end of a routine -/
theorem j_rbody (hI : IL ty q s n 1 r v u i) (hD : dSl ty (dSt ty 24) i (.inr j)) (hi : i ≤ n) (hf : (so = 3 ∧ f = 0) ∨ (so = 4 ∧ f = 1)) : jx (B_X3_routine_118 N so kd m v) (LP_part_414 N N (f, kr, u)) (IQ ty q s n j 0) := by
  obtain ⟨T, G, K, F, P, hIT, hO, rfl⟩ := hI
  have t9 := hIT.2.2.2.2.1.2.2.2.2.2.2.2.2.2.1
  unfold B_X3_routine_118
  rw [t9]
  refine pq_ok (fun _ => pq_pc ?_)
  rw [part_body]
  have hI2 : IT (xmI v m 13 (pI v q 13)) u q s n i 1 T G := IT_13 hIT
  have hO2 : OPN (xmI v m 13 (pI v q 13)) u q s T r K F P := OPN_cong hO (fun y => ⟨fun k hk => mI_ne (Or.inr hk), fun _ => rfl⟩) rfl (FX.rf (a := []) (b := []) (c := [])) (by decide) (by decide) (by decide)
  have ty2 : tyF (xmI v m 13 (pI v q 13)) = tyF v := rfl
  rw [← ty2] at hD ⊢
  generalize xmI v m 13 (pI v q 13) = v1 at hI2 hO2 hD ⊢
  obtain ⟨hV, h, h', h16, hTR, hT2⟩ := id hI2
  have hE : EV2 v1 u n := EV_of hV.1 hV.2.1 hV.2.2.1 hV.2.2.2.1 hV.2.2.2.2.1 hTR hO2.own
  have hW : OWj v1 u := OW_of hTR hO2.own
  obtain ⟨md, hD⟩ := hD
  have hne : ∀ i j, dSt (tyF v1) 24 i (.inr j) → ¬ isEnd (tyF v1 i) := fun i j q => st_ne q
  have st : jx (G_X3_statements N v1) (LP_body_7 N (FS_ N 100) N u) (SJq v1 u n j 0 0) := by
    show jx (F_X3_statements N (FMS_ N 149) v1) _ _
    unfold F_X3_statements B_X3_statements_0
    exact j_stats hE (by omega) ((j_SB hE hW 24 1 (by omega)).1 0 (by omega)) (pg_SB (ty := tyF v1) 24).1 hne md i j v1 u _ _ N N 0 hD hi (Nat.zero_le _) h h' h16
  refine jx_bt st ?_ (fun _ _ => by repeat' (first | exact KP_some kp_rf | with_reducible refine KP_bn ?_ (fun _ _ => ?_) | with_reducible refine KP_if ?_ ?_ | with_reducible refine KP_rd (fun _ => ?_) | with_reducible refine KP_zr ?_ | (with_reducible refine KP_pu2 ?_ ?_; first | exact ks_sI (by decide) kp_rf | exact ks_sL kp_rf | exact ks_sA (by decide) kp_rf | exact ks_sB (by decide) kp_rf) | (with_reducible refine KP_wr2 ?_ ?_; first | exact ks_sA (by decide) kp_rf | exact ks_sB (by decide) kp_rf) | with_reducible exact h_ro _ _ _ _ | with_reducible exact sk_F_is | with_reducible exact sk_F_take | with_reducible exact sk_F_emit | with_reducible exact sk_F_wrong | with_reducible exact sk_F_cost | with_reducible exact sk_F_stuck | with_reducible exact sk_F_ends | with_reducible exact sk_F_begins | with_reducible exact sk_F_opens | with_reducible exact sk_F_has | with_reducible exact sk_F_isNumber | with_reducible exact sk_F_isNext | with_reducible exact sk_F_push | with_reducible exact sk_F_lead | with_reducible exact sk_F_here | with_reducible exact sk_F_kind | with_reducible exact sk_F_isKind | with_reducible exact sk_F_own | with_reducible exact sk_F_constant | with_reducible exact sk_F_bounded | with_reducible exact sk_F_joined | with_reducible exact sk_F_strength | with_reducible exact sk_F_leadAll | with_reducible exact sk_F_loop | with_reducible exact sk_F_label | with_reducible exact sk_F_leaves | with_reducible exact sk_F_telling | with_reducible exact sk_F_local | with_reducible exact sk_F_addSlot | with_reducible exact sk_F_addVariable | with_reducible exact sk_F_isTooWide | with_reducible exact sk_F_named | with_reducible exact sk_F_slotOf | with_reducible exact sk_F_bad | with_reducible exact sk_G_expression | with_reducible exact sk_G_spot | with_reducible exact sk_G_body | with_reducible exact sk_G_stat | with_reducible exact sk_B_part_438 | (with_reducible refine sk_B_part_414 ?_ <;> assumption) | with_reducible exact sk_LP_part_414 _ _ | (with_reducible refine sk_B_part_396 ?_ <;> assumption) | with_reducible exact sk_LP_part_396 _ _ | with_reducible exact sk_B_part_355 | (with_reducible refine sk_B_part_338 ?_ <;> assumption) | with_reducible exact sk_LP_part_338 _ _ | with_reducible exact sk_B_part_300 | with_reducible exact sk_B_part_138 | with_reducible exact sk_B_part_125 | with_reducible exact sk_B_part_93 | with_reducible exact sk_B_part_85 | with_reducible exact sk_B_part_72 | with_reducible exact sk_B_part_61 | with_reducible exact sk_B_part_22 | with_reducible exact sk_B_part_0 | with_reducible exact sk_F_part))
  rintro pl w1 r1 x1 ⟨e1, c1, g1, r1, h01, hjn⟩
  have t9' := hTR.2.2.2.2.2.2.2.2.2.1
  have hm1 : (-1 : Int32).toInt < 0 := by decide
  have fin : ∀ w2 x2 e2 c2, CE v1 w2 j 0 e2 → e2.1 = 0 → RE u x2 j 0 0 c2 → IQ (tyF v1) q s n j 0 0 (xpI w2 q 15 (-1)) 0 (sI x2 70 0) := by
    intro w2 x2 e2 c2 g2 h02 r2
    obtain ⟨y1, y2⟩ := IT_15 (a := -1) (IT_mv hI2 g2 h02 r2) hm1
    exact ⟨⟨T, G, y1, y2, Eq.trans (show tyF (xpI w2 q 15 (-1)) = tyF w2 from rfl) (tkC_ty (cfT_tk (M := []) (cfT_c g2.1)))⟩, hjn⟩
  rcases hf with ⟨z1, z2⟩ | ⟨z1, z2⟩
  · rw [if_neg (by rw [z1]; decide), if_pos z2]
    refine pq_ok (fun _ => k2_step g1 (fun _ w2 g2 => pq_ok (fun _ => pq_pc (pq_some ?_))))
    rw [g2.rf, t9']
    exact y_emit r1 (fun _ x2 r2 => pp_pu (pp_some (Or.inr ⟨0, rfl, fin w2 x2 _ _ g2 h01 r2⟩)))
  · rw [if_pos z1, if_neg (by rw [z2]; decide)]
    refine pq_ok (fun _ => k2_const g1 (fun w2 g2 => pq_ok (fun _ => k2_step g2 (fun _ w3 g3 => pq_ok (fun _ => pq_pc (pq_some ?_))))))
    rw [g3.rf, t9']
    exact y_push r1 (fun x2 r2 => y_emit r2 (fun _ x3 r3 => pp_pu (pp_some (Or.inr ⟨0, rfl, fin w3 x3 _ _ g3 h01 r3⟩))))
/-- locals, Stats, the end -/
theorem j_rlocT (hf : (so = 3 ∧ f = 0) ∨ (so = 4 ∧ f = 1)) : ∀ d i j k v u M M', oWn (fun i => ty i = 1) (dVars ty) (dSl ty (dSt ty 24)) d i (.inr j) → IL ty q s n 1 r v u i → i ≤ n → k ≤ i → jx (LP_X3_routine_79 N M (so, kd, m, Int32.ofNat k, v)) (LP_part_396 N M' (f, kr, u)) (IQ ty q s n j 0) := by
  have e15 : (1500 : Int32).toInt = 1500 := by decide
  intro d
  induction d with
  | zero =>
    rintro i j k v u M M' ⟨z, hD⟩ hI hi hk
    obtain ⟨hV, h, h0, h', hty⟩ := IL_b.1 v u i hI
    have z : ¬ ty i = 1 := z
    cases M with
    | zero => exact jx_n1 rfl
    | succ M =>
      cases M' with
      | zero => exact jx_n2 rfl
      | succ M' =>
        show jx (B_X3_routine_79 N (LP_X3_routine_79 N M) so kd m (Int32.ofNat k) v) (B_part_396 N (LP_part_396 N M') f kr u) _
        have z2 : ¬ tyF v i = 1 := by rw [hty]; exact z
        unfold B_X3_routine_79 B_part_396
        have fin : jx (B_X3_routine_118 N so kd m v) (bn (F_is N 100 u) fun r_16 u_15 => if r_16 = (0 : Int32) then (LP_part_414 N N (f, kr, u_15)) else (bn (F_variables N 0 1 u_15) fun _ u_18 => LP_part_396 N M' (f, kr, u_18))) (IQ ty q s n j 0) := by
          refine jx_r (y_is hV.2.1 (t := 1) (by decide +kernel) h' hi (fun y => absurd y z2) (fun _ => ?_))
          rw [if_pos rfl]
          exact jx_l (j_rbody hI hD hi hf)
        exact pq_if (fun _ => fin) (fun _ => k2_if h (fun y => absurd y z2) (fun _ => fin))
  | succ d ih =>
    rintro i j k v u M M' ⟨z, hD⟩ hI hi hk
    obtain ⟨hV, h, h0, h', hty⟩ := IL_b.1 v u i hI
    have z : ty i = 1 := z
    obtain ⟨k1, p1, p2⟩ := oS_r hD
    have z2 : tyF v i = 1 := by rw [hty]; exact z
    have hn2 := hV.2.1.2.2
    have hil := hV.lt hi (by rw [z2]; exact nEnd (by decide) (by decide) (by decide))
    have ki := ofN_i (k := k) (by omega)
    cases M with
    | zero => exact jx_n1 rfl
    | succ M =>
      cases M' with
      | zero => exact jx_n2 rfl
      | succ M' =>
        show jx (B_X3_routine_79 N (LP_X3_routine_79 N M) so kd m (Int32.ofNat k) v) (B_part_396 N (LP_part_396 N M') f kr u) _
        unfold B_X3_routine_79 B_part_396
        rw [if_neg (fun y => by have := Int32.le_iff_toInt_le.mp y; rw [e15] at this; omega)]
        refine k2_if h (fun _ => ?_) (fun y => absurd z2 y)
        refine k2_next hV.1 h hil (fun w1 g1 => ?_)
        refine jx_r (y_is hV.2.1 (t := 1) (by decide +kernel) h' hi (fun _ => ?_) (fun y => absurd z2 y))
        rw [if_neg (by decide)]
        refine jx_l ?_
        refine jx_bt (j_varsK IL_b (fun kd hkd v u i j hI hD hi => j_oneL hI hD hi (by omega) hkd) hI p1 hil g1) ?_ (fun _ _ => sk_LP_part_396 _ _)
        rintro b w r x ⟨hI2, hk1⟩
        rw [ofN1 (by omega)]
        have hgt : i < k1 := pg_Vars _ _ p1
        exact ih k1 j (k + 1) w x M M' p2 hI2 hk1 (by omega)
/-- behind the parameters -/
theorem j_r62 (hI : IL ty q s n 1 r v u i) (hf : (so = 3 ∧ f = 0) ∨ (so = 4 ∧ f = 1)) (hD : oS (oT ty 41) (oS (oP ty True 123) (dVs ty)) i (.inr j)) (hi : i ≤ n) : jx (B_X3_routine_62 N so kd m v) (B_part_355 N f kr u) (IQ ty q s n j 0) := by
  obtain ⟨hV, h, h0, h', hty⟩ := IL_b.1 v u i hI
  obtain ⟨k1, p1, p2⟩ := oS_r hD
  obtain ⟨t1, rfl⟩ := oT_r p1
  obtain ⟨k2, p3, d, p4⟩ := oS_r p2
  obtain ⟨t2, -, rfl⟩ := oP_r p3
  rw [← hty] at t1 t2
  have hil := hV.lt hi (by rw [t1]; exact nEnd (by decide) (by decide) (by decide))
  have hi1 : i + 1 < n := hV.lt (i := i + 1) hil (by rw [t2]; exact nEnd (by decide) (by decide) (by decide))
  have hj := hV.2.2.2.2.1
  unfold B_X3_routine_62 B_part_355
  refine k2_next hV.1 h hil (fun w1 g1 => k2_next hV.1 g1 hi1 (fun w2 g2 => ?_))
  refine jx_r (y_ends hV.2.1 (t := 41) (by decide +kernel) h' hil t1 (by omega) (fun x1 r1 => y_begins hV.2.1 (t := 123) (by decide +kernel) r1 hi1 t2 (by omega) (fun x2 r2 => ?_)))
  rw [if_neg (by rw [r2.sc (by decide)]; exact hj), if_pos r2.2.1]
  refine y_here (fun a => pp_wr (jx_l ?_))
  have hI2 : IL ty q s n 1 r w2 x2 (i + 1 + 1) := IL_b.2 v u w2 x2 i (i + 1 + 1) _ _ hI g2 h0 r2
  exact j_rlocT hf d (i + 1 + 1) j 0 w2 _ N N p4 (IL_32 hI2) hi1 (Nat.zero_le _)
/-- parameters behind the first, and the rest -/
theorem j_rparT (hf : (so = 3 ∧ f = 0) ∨ (so = 4 ∧ f = 1)) : ∀ d i j k v u M M', oWn (fun i => ty i = 44) (oN (dPar ty)) (oS (oT ty 41) (oS (oP ty True 123) (dVs ty))) d i (.inr j) → IP ty q s n 1 r v u i → i ≤ n → k ≤ i → jx (LP_X3_routine_32 N M (so, kd, m, Int32.ofNat k, v)) (LP_part_338 N M' (f, kr, u)) (IQ ty q s n j 0) := by
  have e15 : (1500 : Int32).toInt = 1500 := by decide
  intro d
  induction d with
  | zero =>
    rintro i j k v u M M' ⟨z, hD⟩ hI hi hk
    obtain ⟨hV, h, h0, h', hty⟩ := IL_b.1 v u i hI.il
    have z : ¬ ty i = 44 := z
    obtain ⟨k1, p1, p2⟩ := oS_r hD
    obtain ⟨t1, -⟩ := oT_r p1
    cases M with
    | zero => exact jx_n1 rfl
    | succ M =>
      cases M' with
      | zero => exact jx_n2 rfl
      | succ M' =>
        show jx (B_X3_routine_32 N (LP_X3_routine_32 N M) so kd m (Int32.ofNat k) v) (B_part_338 N (LP_part_338 N M') f kr u) _
        have z2 : ¬ tyF v i = 44 := by rw [hty]; exact z
        have t2 : tyF v i = 41 := by rw [hty]; exact t1
        unfold B_X3_routine_32 B_part_338
        have fin : jx (B_X3_routine_62 N so kd m v) (bn (F_has N 230 u) fun r_28 u_27 => if r_28 = (0 : Int32) then (B_part_355 N f kr u_27) else (bn (F_parameter N u_27) fun _ u_30 => LP_part_338 N M' (f, kr, u_30))) (IQ ty q s n j 0) := by
          refine jx_r (y_has hV.2.1 (t := 44) (by decide +kernel) (nEnd (by decide) (by decide) (by decide)) h' hi (fun y => absurd y z2) (fun _ => ?_))
          rw [if_pos rfl]
          exact jx_l (j_r62 hI.il hf hD hi)
        exact pq_if (fun _ => fin) (fun _ => k2_if h (fun _ => fin) (fun y => absurd t2 y))
  | succ d ih =>
    rintro i j k v u M M' ⟨z, hD⟩ hI hi hk
    obtain ⟨hV, h, h0, h', hty⟩ := IL_b.1 v u i hI.il
    have z : ty i = 44 := z
    obtain ⟨k1, p1, p2⟩ := oS_r hD
    have z2 : tyF v i = 44 := by rw [hty]; exact z
    have hn2 := hV.2.1.2.2
    have hil := hV.lt hi (by rw [z2]; exact nEnd (by decide) (by decide) (by decide))
    have ki := ofN_i (k := k) (by omega)
    cases M with
    | zero => exact jx_n1 rfl
    | succ M =>
      cases M' with
      | zero => exact jx_n2 rfl
      | succ M' =>
        show jx (B_X3_routine_32 N (LP_X3_routine_32 N M) so kd m (Int32.ofNat k) v) (B_part_338 N (LP_part_338 N M') f kr u) _
        unfold B_X3_routine_32 B_part_338
        rw [if_neg (fun y => by have := Int32.le_iff_toInt_le.mp y; rw [e15] at this; omega)]
        refine k2_if h (fun y => by rw [z2] at y; exact absurd y (by decide)) (fun _ => ?_)
        unfold F_X3_parameter B_X3_parameter_0
        rw [bt_bc]
        refine k2_is h (fun _ => ?_) (fun y => absurd z2 y)
        rw [if_neg (by decide), bt_bc]
        refine k2_next hV.1 h hil (fun w1 g1 => ?_)
        refine jx_r (y_has hV.2.1 (t := 44) (by decide +kernel) (nEnd (by decide) (by decide) (by decide)) h' hi (fun _ _ x1 r1 => ?_) (fun y => absurd z2 y))
        rw [if_neg (by decide)]
        refine jx_l ?_
        refine jx_bt (j_par (IP_mv hI g1 h0 r1) p1 hil) ?_ (fun _ _ => sk_LP_part_338 _ _)
        rintro b w r x ⟨hI2, hk1⟩
        rw [ofN1 (by omega)]
        have hgt : i + 1 < k1 := pg_Par _ _ p1
        exact ih k1 j (k + 1) w x M M' p2 hI2 hk1 (by omega)
end Rt
