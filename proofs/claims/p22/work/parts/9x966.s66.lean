/-! The second pass: Items. Tasks from their word on; all Items. -/
section Cy
variable {v w : CSt} {u x : RSt} {q s T G n i j o l N : Nat} {e : E5} {c : R5} {ty : Nat → Int32}
theorem b64_32 {y : Int64} {a b : Int32} (h1 : ¬ y < a.toInt64) (h2 : y ≤ b.toInt64) : y.toInt32.toInt = y.toInt ∧ a.toInt ≤ y.toInt ∧ y.toInt ≤ b.toInt := by
  have h1' : ¬ y.toInt < a.toInt64.toInt := fun q => h1 (Int64.lt_iff_toInt_lt.mpr q)
  have h2' : y.toInt ≤ b.toInt64.toInt := Int64.le_iff_toInt_le.mp h2
  rw [Int32.toInt_toInt64] at h1' h2'
  have l1 := Int32.le_toInt a
  have l2 := Int32.toInt_lt b
  refine ⟨?_, by omega, h2'⟩
  rw [Int64.toInt_toInt32]
  exact Int.bmod_eq_of_le (by omega) (by omega)
/-- a task, from its NAME on -/
theorem j_cyc (hI : IG ty q s n 0 v u i) (hD : oS (oT ty 128) (oS (oT ty 10) (oS (oT ty 129) (oF (fun i => ty i = 11) (oN (oS (oT ty 129) (dBo ty 25))) (dBo ty 25)))) i (.inr j)) (hi : i ≤ n) : jx (F_X3_cyclic N v) (bn (F_is N 1 u) fun r_43 u_42 => if r_43 = (0 : Int32) then (bn (F_stuck N u_42) fun _ u_50 => some (0, u_50)) else (rd (u_42.2.2.1 48) 2 (u_42.1 56) fun v_45 => rd (u_42.2.2.1 48) 2 (u_42.1 56) fun v_47 => if v_47 = (8 : Int32) then (B_tasked_53 N 2 v_45 1 u_42) else (B_tasked_53 N 2 v_45 0 u_42))) (IQ ty q s n j 0) := by
  obtain ⟨T, G, hIT, hO, rfl⟩ := hI
  obtain ⟨hV, h, h', h16, hTR, hT2⟩ := id hIT
  obtain ⟨t1, t2, t3, t4, t5, t5', t6, t7, t8, t9, t10, t11, t12, t13, t14, t15, t16, t17⟩ := id hTR
  obtain ⟨s1, s2, s3, s4, s5, s6, s7⟩ := id hT2
  obtain ⟨c0, c1, c2, c3, c4, c5, c6, c7, c8, c9, c10⟩ := id s2
  obtain ⟨k1, p1, p2⟩ := oS_r hD
  obtain ⟨tt, rfl⟩ := oT_r p1
  obtain ⟨k2, p3, p4⟩ := oS_r p2
  obtain ⟨tv, rfl⟩ := oT_r p3
  obtain ⟨k3, p5, p6⟩ := oS_r p4
  obtain ⟨tn, rfl⟩ := oT_r p5
  have hil : i < n := hV.lt hi (by rw [tt]; exact nEnd (by decide) (by decide) (by decide))
  have hi1 : i + 1 < n := hV.lt (i := i + 1) hil (by rw [tv]; exact nEnd (by decide) (by decide) (by decide))
  have hi2 : i + 1 + 1 < n := hV.lt (i := i + 1 + 1) hi1 (by rw [tn]; exact nEnd (by decide) (by decide) (by decide))
  have hj := hV.2.2.2.2.1
  have hn2 := hV.2.1.2.2
  have e8 : (8 : Int32).toInt = 8 := by decide
  have e1 : (1 : Int32).toInt = 1 := by decide
  have e0 : (0 : Int32).toInt = 0 := by decide
  have e1000 : (1000 : Int32).toInt = 1000 := by decide
  have b2 : (bt_1.getD 2 0).toInt = 8 := by decide
  have k48 : (u.2.2.1 48 s).toInt = ((u.2.2.1 48 s).toInt.toNat : Nat) := by omega
  refine jx_r (y_is hV.2.1 (t := 128) (by decide +kernel) h' hi (fun _ => ?_) (fun y => absurd tt y))
  rw [if_neg (by decide)]
  refine pp_rd (pp_rd ?_)
  rw [n_of t6]
  have main : ∀ l3 : Int32, (l3 = 0 ↔ ¬ u.2.2.1 48 s = 8) → jx (F_X3_cyclic N v) (B_tasked_53 N 2 (u.2.2.1 48 s) l3 u) (IQ (tyF v) q s n j 0) := by
    intro l3 hl3
    unfold F_X3_cyclic B_X3_cyclic_0 B_tasked_53
    refine j_newG (so := 2) (sn := 2) (k0 := (u.2.2.1 48 s).toInt.toNat) hV hTR h h' hil tt (by decide) (by omega) (by rw [c2]; exact k48) (by omega) (fun _ => ?_) (fun w x hT hk f1 f2 hN hC hX => ?_) (fun _ _ => by repeat' (first | exact KP_some kp_rf | with_reducible refine KP_bn ?_ (fun _ _ => ?_) | with_reducible refine KP_if ?_ ?_ | with_reducible refine KP_rd (fun _ => ?_) | with_reducible refine KP_zr ?_ | (with_reducible refine KP_pu2 ?_ ?_; first | exact ks_sI (by decide) kp_rf | exact ks_sL kp_rf | exact ks_sA (by decide) kp_rf | exact ks_sB (by decide) kp_rf) | (with_reducible refine KP_wr2 ?_ ?_; first | exact ks_sA (by decide) kp_rf | exact ks_sB (by decide) kp_rf) | with_reducible exact h_ro _ _ _ _ | with_reducible exact sk_F_is | with_reducible exact sk_F_take | with_reducible exact sk_F_emit | with_reducible exact sk_F_wrong | with_reducible exact sk_F_cost | with_reducible exact sk_F_stuck | with_reducible exact sk_F_ends | with_reducible exact sk_F_begins | with_reducible exact sk_F_opens | with_reducible exact sk_F_has | with_reducible exact sk_F_isNumber | with_reducible exact sk_F_isNext | with_reducible exact sk_F_push | with_reducible exact sk_F_lead | with_reducible exact sk_F_here | with_reducible exact sk_F_kind | with_reducible exact sk_F_isKind | with_reducible exact sk_F_own | with_reducible exact sk_F_constant | with_reducible exact sk_F_bounded | with_reducible exact sk_F_joined | with_reducible exact sk_F_strength | with_reducible exact sk_F_leadAll | with_reducible exact sk_F_loop | with_reducible exact sk_F_label | with_reducible exact sk_F_leaves | with_reducible exact sk_F_telling | with_reducible exact sk_F_local | with_reducible exact sk_F_addSlot | with_reducible exact sk_F_addVariable | with_reducible exact sk_F_isTooWide | with_reducible exact sk_F_named | with_reducible exact sk_F_slotOf | with_reducible exact sk_F_bad | with_reducible exact sk_G_expression | with_reducible exact sk_G_spot | with_reducible exact sk_G_body | with_reducible exact sk_G_stat | with_reducible exact sk_B_tasked_213 | with_reducible exact sk_B_tasked_125 | with_reducible exact sk_B_tasked_53 | with_reducible exact sk_B_tasked_0 | with_reducible exact sk_F_tasked))
    · rw [hl3, b2, tI_eq, e8]
      omega
    · rw [b2] at hk
      have hr0 : RE x x i 0 0 (eR u) := TLr_re hX h'
      have hVw : EV1 w x n := hV.tr (NGc_tk hN) (TLr_tk hX)
      have tyw : tyF w = tyF v := tkC_ty (NGc_tk hN)
      have nr := (hV.2.2.1 i hil).2.2.2.2 tt
      have x56 : (x.1 56).toInt = (s : Int) := by rw [hX.1 56 (by decide)]; exact t6
      have x48 : x.2.2.1 48 = u.2.2.1 48 := hX.2.2.1 48 (by decide)
      refine pq_ok (fun _ => k2_next hVw.1 hC hi1 (fun w1 g1 => ?_))
      refine jx_r (pp_rd ?_)
      rw [n_of x56, x48]
      have hl1 : (8 * x.1 56 + u.2.2.1 48 s).toInt = (8 * s + (u.2.2.1 48 s).toInt.toNat : Nat) := m8 x56 t7 k48 (by omega)
      have hl2 : (x.1 65).toNatClampNeg = i := hr0.nat
      -- behind every, after: the task is put, its body
      have fin : ∀ (w5 : CSt) (x5 : RSt) (ev af : Int32) (k : Nat) (e5 : E5) (c5 : R5), CE w w5 k 0 e5 → e5.1 = 0 → RE x x5 k 0 0 c5 → (1 ≤ ev.toInt ∧ ev.toInt ≤ 1000 ∧ 0 ≤ af.toInt ∧ af.toInt < ev.toInt) → dBo (tyF v) 25 k (.inr j) → k ≤ n → jx (B_X3_cyclic_61 N (169 * q + T) ev af w5) (B_tasked_125 N (8 * x.1 56 + u.2.2.1 48 s) (x.1 65) ev af x5) (IQ (tyF v) q s n j 0) := by
        intro w5 x5 ev af k e5 c5 g5 h5 r5 hev hDb hkn
        have m4 : mI w5 (169 * q + T) 4 = u.2.2.1 48 s := by rw [g5.nm, hN.2.2.2.2.2.2.2.2.2.2.2.2.2]; exact c2
        have y69 : ¬ x5.1 69 = 0 := by rw [r5.sc (by decide), hX.1 69 (by decide)]; exact hj
        have wR : cR w5 2 = q := by
          rw [g5.rf]
          show w.2.2.2.2.2.2.2.2.2.2 2 = q
          rw [hN.2.2.2.2.2.2.2.2.1]
          exact t9
        unfold B_X3_cyclic_61
        rw [m4, if_neg (fun y => by have := Int32.le_iff_toInt_le.mp y; omega), wR, n_of k48]
        refine pq_ok (fun _ => pq_ix (fun _ => k2_tbec (fun w6 hB => ?_)))
        refine jx_r (y_task (RE_b r5) y69 (n_of hl1) hl2 (fun y hA => jx_l ?_))
        obtain ⟨z1, z2, z3⟩ := IT_task hV hTR hT2 hO hT k48 (by omega) nr f1 f2 hN hX g5.1 hB hev hA (CE_b g5) h5 r5
        rw [← z3] at hDb ⊢
        exact j_tbody z1 z2 hDb hkn
      have e16 : (eC v).1 = 0 := h16
      refine y_adv hr0 (by omega) (fun x1 r1 => ?_)
      refine y_take hVw.2.1 (t := 10) (by decide +kernel) r1 hi1 (by rw [tyw]; exact tv) (fun x2 r2 => jx_l ?_)
      refine i_bounded hVw g1 r2 hi2 (by rw [tyw]; exact tn) (by decide) (by decide) (fun y w3 x3 y1 y2 g3 r3 => ?_) (fun _ _ => by repeat' (first | exact KP_some kp_rf | with_reducible refine KP_bn ?_ (fun _ _ => ?_) | with_reducible refine KP_if ?_ ?_ | with_reducible refine KP_rd (fun _ => ?_) | with_reducible refine KP_zr ?_ | (with_reducible refine KP_pu2 ?_ ?_; first | exact ks_sI (by decide) kp_rf | exact ks_sL kp_rf | exact ks_sA (by decide) kp_rf | exact ks_sB (by decide) kp_rf) | (with_reducible refine KP_wr2 ?_ ?_; first | exact ks_sA (by decide) kp_rf | exact ks_sB (by decide) kp_rf) | with_reducible exact h_ro _ _ _ _ | with_reducible exact sk_F_is | with_reducible exact sk_F_take | with_reducible exact sk_F_emit | with_reducible exact sk_F_wrong | with_reducible exact sk_F_cost | with_reducible exact sk_F_stuck | with_reducible exact sk_F_ends | with_reducible exact sk_F_begins | with_reducible exact sk_F_opens | with_reducible exact sk_F_has | with_reducible exact sk_F_isNumber | with_reducible exact sk_F_isNext | with_reducible exact sk_F_push | with_reducible exact sk_F_lead | with_reducible exact sk_F_here | with_reducible exact sk_F_kind | with_reducible exact sk_F_isKind | with_reducible exact sk_F_own | with_reducible exact sk_F_constant | with_reducible exact sk_F_bounded | with_reducible exact sk_F_joined | with_reducible exact sk_F_strength | with_reducible exact sk_F_leadAll | with_reducible exact sk_F_loop | with_reducible exact sk_F_label | with_reducible exact sk_F_leaves | with_reducible exact sk_F_telling | with_reducible exact sk_F_local | with_reducible exact sk_F_addSlot | with_reducible exact sk_F_addVariable | with_reducible exact sk_F_isTooWide | with_reducible exact sk_F_named | with_reducible exact sk_F_slotOf | with_reducible exact sk_F_bad | with_reducible exact sk_G_expression | with_reducible exact sk_G_spot | with_reducible exact sk_G_body | with_reducible exact sk_G_stat | with_reducible exact sk_B_tasked_213 | with_reducible exact sk_B_tasked_125 | with_reducible exact sk_B_tasked_53 | with_reducible exact sk_B_tasked_0 | with_reducible exact sk_F_tasked))
      obtain ⟨ye, ya, yb⟩ := b64_32 (a := 1) (b := 1000) y1 y2
      rw [e1] at ya
      rw [e1000] at yb
      rcases oF_r p6 with ⟨z, q6⟩ | ⟨z, q6⟩
      · have z' : tyF w (i + 1 + 1 + 1) = 11 := by rw [tyw]; exact z
        have hi3 : i + 1 + 1 + 1 < n := hVw.lt (i := i + 1 + 1 + 1) hi2 (by rw [z']; exact nEnd (by decide) (by decide) (by decide))
        obtain ⟨k4, q7, q8⟩ := oS_r (show oS (oT (tyF v) 129) (dBo (tyF v) 25) (i + 1 + 1 + 1 + 1) (.inr j) from q6)
        obtain ⟨t9', rfl⟩ := oT_r q7
        have hi4 : i + 1 + 1 + 1 + 1 < n := hV.lt (i := i + 1 + 1 + 1 + 1) hi3 (by rw [t9']; exact nEnd (by decide) (by decide) (by decide))
        refine k2_if g3 (fun _ => ?_) (fun y => absurd z' y)
        refine k2_next hVw.1 g3 hi3 (fun w4 g4 => ?_)
        refine jx_r (y_has hVw.2.1 (t := 11) (by decide +kernel) (nEnd (by decide) (by decide) (by decide)) r3 hi2 (fun _ _ x4 r4 => ?_) (fun y => absurd z' y))
        rw [if_neg (by decide)]
        refine jx_l ?_
        refine i_bounded hVw g4 r4 hi4 (by rw [tyw]; exact t9') (by decide) rfl (fun y' w5 x5 y1' y2' g5 r5 => ?_) (fun _ _ => by repeat' (first | exact KP_some kp_rf | with_reducible refine KP_bn ?_ (fun _ _ => ?_) | with_reducible refine KP_if ?_ ?_ | with_reducible refine KP_rd (fun _ => ?_) | with_reducible refine KP_zr ?_ | (with_reducible refine KP_pu2 ?_ ?_; first | exact ks_sI (by decide) kp_rf | exact ks_sL kp_rf | exact ks_sA (by decide) kp_rf | exact ks_sB (by decide) kp_rf) | (with_reducible refine KP_wr2 ?_ ?_; first | exact ks_sA (by decide) kp_rf | exact ks_sB (by decide) kp_rf) | with_reducible exact h_ro _ _ _ _ | with_reducible exact sk_F_is | with_reducible exact sk_F_take | with_reducible exact sk_F_emit | with_reducible exact sk_F_wrong | with_reducible exact sk_F_cost | with_reducible exact sk_F_stuck | with_reducible exact sk_F_ends | with_reducible exact sk_F_begins | with_reducible exact sk_F_opens | with_reducible exact sk_F_has | with_reducible exact sk_F_isNumber | with_reducible exact sk_F_isNext | with_reducible exact sk_F_push | with_reducible exact sk_F_lead | with_reducible exact sk_F_here | with_reducible exact sk_F_kind | with_reducible exact sk_F_isKind | with_reducible exact sk_F_own | with_reducible exact sk_F_constant | with_reducible exact sk_F_bounded | with_reducible exact sk_F_joined | with_reducible exact sk_F_strength | with_reducible exact sk_F_leadAll | with_reducible exact sk_F_loop | with_reducible exact sk_F_label | with_reducible exact sk_F_leaves | with_reducible exact sk_F_telling | with_reducible exact sk_F_local | with_reducible exact sk_F_addSlot | with_reducible exact sk_F_addVariable | with_reducible exact sk_F_isTooWide | with_reducible exact sk_F_named | with_reducible exact sk_F_slotOf | with_reducible exact sk_F_bad | with_reducible exact sk_G_expression | with_reducible exact sk_G_spot | with_reducible exact sk_G_body | with_reducible exact sk_G_stat | with_reducible exact sk_B_tasked_213 | with_reducible exact sk_B_tasked_125 | with_reducible exact sk_B_tasked_53 | with_reducible exact sk_B_tasked_0 | with_reducible exact sk_F_tasked))
        obtain ⟨ye', ya', yb'⟩ := b64_32 (a := 0) (b := y.toInt32 - 1) y1' y2'
        have em : (y.toInt32 - 1).toInt = y.toInt - 1 := by rw [tI_sub (by omega) (by omega), e1, ye]
        rw [e0] at ya'
        exact fin w5 x5 y.toInt32 y'.toInt32 _ _ _ g5 e16 r5 ⟨by omega, by omega, by omega, by omega⟩ q8 hi4
      · have z' : ¬ tyF w (i + 1 + 1 + 1) = 11 := by rw [tyw]; exact z
        refine k2_if g3 (fun y => absurd y z') (fun _ => ?_)
        refine jx_r (y_has hVw.2.1 (t := 11) (by decide +kernel) (nEnd (by decide) (by decide) (by decide)) r3 hi2 (fun y => absurd y z') (fun _ => ?_))
        rw [if_pos rfl]
        exact jx_l (fin w3 x3 y.toInt32 0 _ _ _ g3 e16 r3 ⟨by omega, by omega, by rw [e0]; omega, by rw [e0]; omega⟩ q6 hi2)
  by_cases y : u.2.2.1 48 s = 8
  · rw [if_pos y]
    exact jx_l (main 1 ⟨fun z => absurd z (by decide), fun z => absurd y z⟩)
  · rw [if_neg y]
    exact jx_l (main 0 ⟨fun _ => y, fun _ => rfl⟩)
/-- all Items -/
theorem j_textT : ∀ d i j k v u M M', oWn (fun i => ¬ ty i = 0) (dItem ty) oE d i (.inr j) → IG ty q s n 0 v u i → i ≤ n → k ≤ i → jx (LP_X3_make_57 N M (Int32.ofNat k, v)) (LP_text_0 N M' u) (IQ ty q s n j 0) := by
  have e15 : (1500 : Int32).toInt = 1500 := by decide
  intro d
  induction d with
  | zero =>
    rintro i j k v u M M' ⟨z, hD⟩ hI hi hk
    obtain ⟨hV, h, h0, h', hty⟩ := IG_b.1 v u i hI
    have hj1 := oE_r hD
    subst hj1
    have z : ty j = 0 := Classical.not_not.mp z
    have z2 : tyF v j = 0 := by rw [hty]; exact z
    cases M with
    | zero => exact jx_n1 rfl
    | succ M =>
      cases M' with
      | zero => exact jx_n2 rfl
      | succ M' =>
        show jx (B_X3_make_57 N (LP_X3_make_57 N M) (Int32.ofNat k) v) (B_text_0 N (LP_text_0 N M') u) _
        unfold B_X3_make_57 B_text_0
        rw [if_pos h'.2.1]
        have ref : pp (bn (F_is N 5 u) fun r_3 u_2 => if r_3 = (0 : Int32) then (rd (u_2.2.2.1 2) 1502 (u_2.1 65) fun v_5 => if v_5 = 100 then (bn (F_variables N 0 0 u_2) fun _ u_8 => LP_text_0 N M' (u_8)) else (if v_5 = 101 then (bn (F_variables N 1 0 u_2) fun _ u_10 => LP_text_0 N M' (u_10)) else (if v_5 = 102 then (bn (F_image N 2 u_2) fun _ u_12 => LP_text_0 N M' (u_12)) else (if v_5 = 103 then (bn (F_image N 3 u_2) fun _ u_14 => LP_text_0 N M' (u_14)) else (if v_5 = 105 then (bn (F_part N 0 u_2) fun _ u_16 => LP_text_0 N M' (u_16)) else (if v_5 = 106 then (bn (F_use N u_2) fun _ u_18 => LP_text_0 N M' (u_18)) else (if v_5 = 107 then (bn (F_part N 1 u_2) fun _ u_20 => LP_text_0 N M' (u_20)) else (if v_5 = 108 then (bn (F_tasked N u_2) fun _ u_22 => LP_text_0 N M' (u_22)) else (bn (F_stuck N u_2) fun _ u_23 => LP_text_0 N M' (u_23)))))))))) else (some (0, u_2))) (fun r x => r = 0 ∧ x = u) := by
          refine y_is hV.2.1 (t := 0) (by decide +kernel) h' hi (fun _ => ?_) (fun y => absurd z2 y)
          rw [if_neg (by decide)]
          exact pp_some ⟨rfl, rfl⟩
        have fin : ∀ (p : Int32), jx (some (Sum.inr p, v)) _ (IQ ty q s n j 0) := fun p => pq_some (pp_m ref (fun r x hx => Or.inr ⟨p, rfl, by rw [hx.2]; exact ⟨hI, hi⟩⟩))
        refine pq_if (fun _ => fin 0) (fun _ => ?_)
        refine k2_is h (fun _ => ?_) (fun y => absurd z2 y)
        rw [if_neg (by decide)]
        exact fin 0
  | succ d ih =>
    rintro i j k v u M M' ⟨z, hD⟩ hI hi hk
    obtain ⟨hV, h, h0, h', hty⟩ := IG_b.1 v u i hI
    have z : ¬ ty i = 0 := z
    obtain ⟨k1, p1, p2⟩ := oS_r hD
    have z2 : ¬ tyF v i = 0 := by rw [hty]; exact z
    have hn2 := hV.2.1.2.2
    have hit : tyF v i = 1 ∨ tyF v i = 2 ∨ tyF v i = 3 ∨ tyF v i = 4 ∨ tyF v i = 6 ∨ tyF v i = 7 ∨ tyF v i = 8 ∨ tyF v i = 9 := by
      rw [hty]
      rcases oF_r p1 with ⟨y, -⟩ | ⟨-, q1⟩
      · rcases y with y | y
        · exact Or.inl y
        · exact Or.inr (Or.inl y)
      rcases oF_r q1 with ⟨y, -⟩ | ⟨-, q1⟩
      · rcases y with y | y
        · exact Or.inr (Or.inr (Or.inl y))
        · exact Or.inr (Or.inr (Or.inr (Or.inl y)))
      rcases oF_r q1 with ⟨y, -⟩ | ⟨-, q1⟩
      · exact Or.inr (Or.inr (Or.inr (Or.inr (Or.inl y))))
      rcases oF_r q1 with ⟨y, -⟩ | ⟨-, q1⟩
      · exact Or.inr (Or.inr (Or.inr (Or.inr (Or.inr (Or.inl y)))))
      rcases oF_r q1 with ⟨y, -⟩ | ⟨-, q1⟩
      · exact Or.inr (Or.inr (Or.inr (Or.inr (Or.inr (Or.inr (Or.inl y))))))
      rcases oF_r q1 with ⟨y, -⟩ | ⟨-, q1⟩
      · exact Or.inr (Or.inr (Or.inr (Or.inr (Or.inr (Or.inr (Or.inr y))))))
      exact (oR_r q1).elim
    have hil := hV.lt hi (by rcases hit with y | y | y | y | y | y | y | y <;> (rw [y]; exact nEnd (by decide) (by decide) (by decide)))
    have ki := ofN_i (k := k) (by omega)
    have hgt : i < k1 := pg_Item _ _ p1
    have sre : SRe (tyF v i) (u.2.2.1 2 i) := hV.2.1.1 i hi
    cases M with
    | zero => exact jx_n1 rfl
    | succ M =>
      cases M' with
      | zero => exact jx_n2 rfl
      | succ M' =>
        show jx (B_X3_make_57 N (LP_X3_make_57 N M) (Int32.ofNat k) v) (B_text_0 N (LP_text_0 N M') u) _
        unfold B_X3_make_57 B_text_0
        rw [if_pos h'.2.1, if_neg (fun y => by have := Int32.lt_iff_toInt_lt.mp y; rw [e15] at this; omega)]
        refine k2_is h (fun y => absurd y z2) (fun _ => ?_)
        rw [if_pos rfl]
        refine k2_type h (k2_next hV.1 h hil (fun w1 g1 => ?_))
        refine jx_r (y_is hV.2.1 (t := 0) (by decide +kernel) h' hi (fun y => absurd y z2) (fun _ => ?_))
        rw [if_pos rfl]
        refine y_rA h' (by decide) (jx_l ?_)
        have go : ∀ (b : Int32) (w : CSt) (r : Int32) (x : RSt), IQ ty q s n k1 0 b w r x → jx (B_X3_make_205 N (LP_X3_make_57 N M) (Int32.ofNat k) w) (LP_text_0 N M' x) (IQ ty q s n j 0) := by
          intro b w r x hq
          unfold B_X3_make_205
          rw [ofN1 (by omega)]
          exact ih k1 j (k + 1) w x M M' p2 hq.1 hq.2 (by omega)
        have kp : ∀ (r : Int32) x, KP (LP_text_0 N M' x) x := fun _ x => sk_LP_text_0 _ _
        have sel : ∀ t so : Int32, (∀ p ∈ prs, (p.1 = t → p.2 = so)) → tyF v i = t → u.2.2.1 2 i = so := fun t so hd ht => hd (tyF v i, u.2.2.1 2 i) sre ht
        rcases oF_r p1 with ⟨y, q1⟩ | ⟨ny, q1⟩
        · rcases y with y | y
          · have y' : tyF v i = 1 := by rw [hty]; exact y
            rw [y', sel 1 100 (by decide +kernel) y', if_pos rfl, if_pos rfl]
            exact jx_bt (j_vars hI q1 hil (by omega) (Or.inl rfl) g1) go kp
          · have y' : tyF v i = 2 := by rw [hty]; exact y
            rw [y', sel 2 101 (by decide +kernel) y', if_neg (by decide), if_pos rfl, if_neg (by decide), if_pos rfl]
            exact jx_bt (j_vars hI q1 hil (by omega) (Or.inr rfl) g1) go kp
        rcases oF_r q1 with ⟨y, q1⟩ | ⟨ny2, q1⟩
        · rcases y with y | y
          · have y' : tyF v i = 3 := by rw [hty]; exact y
            rw [y', sel 3 102 (by decide +kernel) y', if_neg (by decide), if_neg (by decide), if_pos rfl, if_neg (by decide), if_neg (by decide), if_pos rfl]
            exact jx_bt (j_placed hI q1 hil (Or.inl rfl) g1) go kp
          · have y' : tyF v i = 4 := by rw [hty]; exact y
            rw [y', sel 4 103 (by decide +kernel) y', if_neg (by decide), if_neg (by decide), if_neg (by decide), if_pos rfl, if_neg (by decide), if_neg (by decide), if_neg (by decide), if_pos rfl]
            exact jx_bt (j_placed hI q1 hil (Or.inr rfl) g1) go kp
        rcases oF_r q1 with ⟨y, q1⟩ | ⟨ny3, q1⟩
        · have y' : tyF v i = 6 := by rw [hty]; exact y
          rw [y', sel 6 105 (by decide +kernel) y', if_neg (by decide), if_neg (by decide), if_neg (by decide), if_neg (by decide), if_pos rfl, if_neg (by decide), if_neg (by decide), if_neg (by decide), if_neg (by decide), if_pos rfl]
          refine jx_bt ?_ go kp
          unfold F_part B_part_0
          refine jx_r (y_adv h' (by omega) (fun x1 r1 => ?_))
          rw [if_pos rfl]
          exact jx_l (j_routine (IG_b.2 v u w1 x1 i (i + 1) _ _ hI g1 h0 r1) q1 hil (Or.inl ⟨rfl, rfl⟩))
        rcases oF_r q1 with ⟨y, q1⟩ | ⟨ny4, q1⟩
        · have y' : tyF v i = 7 := by rw [hty]; exact y
          rw [y', sel 7 106 (by decide +kernel) y', if_neg (by decide), if_neg (by decide), if_neg (by decide), if_neg (by decide), if_neg (by decide), if_pos rfl, if_neg (by decide), if_neg (by decide), if_neg (by decide), if_neg (by decide), if_neg (by decide), if_pos rfl]
          exact jx_bt (j_uses hI q1 hil g1) go kp
        rcases oF_r q1 with ⟨y, q1⟩ | ⟨ny5, q1⟩
        · have y' : tyF v i = 8 := by rw [hty]; exact y
          rw [y', sel 8 107 (by decide +kernel) y', if_neg (by decide), if_neg (by decide), if_neg (by decide), if_neg (by decide), if_neg (by decide), if_neg (by decide), if_pos rfl, if_neg (by decide), if_neg (by decide), if_neg (by decide), if_neg (by decide), if_neg (by decide), if_neg (by decide), if_pos rfl]
          obtain ⟨k2, q2, q3⟩ := oS_r (show oS (oKd ty) (dRout ty) (i + 1) (.inr k1) from q1)
          obtain ⟨tk, rfl⟩ := oK_r q2
          have tk2 : 12 ≤ tyF v (i + 1) ∧ tyF v (i + 1) ≤ 16 := by rw [hty]; exact tk
          have hi1 : i + 1 < n := hV.lt (i := i + 1) hil (nEk tk2)
          refine k2_kind hV.1 g1 hi1 (fun w2 g2 => ?_)
          refine jx_bt ?_ go kp
          unfold F_part B_part_0
          refine jx_r (y_adv h' (by omega) (fun x1 r1 => ?_))
          rw [if_neg (by decide)]
          refine y_kind hV.2.1 r1 hi1 tk2 (fun x2 r2 => jx_l ?_)
          exact j_routine (IG_b.2 v u w2 x2 i (i + 1 + 1) _ _ hI g2 h0 r2) q3 hi1 (Or.inr ⟨rfl, rfl, KD_ty tk2, rfl⟩)
        rcases oF_r q1 with ⟨y, q1⟩ | ⟨ny6, q1⟩
        · have y' : tyF v i = 9 := by rw [hty]; exact y
          rw [y', sel 9 108 (by decide +kernel) y', if_neg (by decide), if_neg (by decide), if_neg (by decide), if_neg (by decide), if_neg (by decide), if_neg (by decide), if_neg (by decide), if_neg (by decide), if_neg (by decide), if_neg (by decide), if_neg (by decide), if_neg (by decide), if_neg (by decide), if_neg (by decide), if_pos rfl]
          refine jx_bt ?_ go kp
          unfold F_tasked B_tasked_0
          refine jx_r (y_adv h' (by omega) (fun x1 r1 => jx_l ?_))
          exact j_cyc (IG_b.2 v u w1 x1 i (i + 1) _ _ hI g1 h0 r1) q1 hil
        exact (oR_r q1).elim
end Cy
