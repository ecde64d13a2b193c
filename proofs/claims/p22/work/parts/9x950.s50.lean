/-! The second pass: Items. What stands behind a NAME that is told: [ NUMBER ], = Const. -/
/-- the name m was told further: how, KIND, size, row, first -/
def DCl (w1 w : CSt) (m : Nat) (how kd sz rw : Int32) (fs : Int64) : Prop := cfT [m] w1 w ∧ mI w m 6 = how ∧ mI w m 5 = kd ∧ mI w m 7 = sz ∧ mI w m 8 = rw ∧ mL w m 10 = fs ∧ (∀ k, k ∉ [5, 6, 7, 8] → mI w m k = mI w1 m k) ∧ mL w m 0 = mL w1 m 0
section Dcl
variable {v w w1 : CSt} {u x x1 : RSt} {n i j o l m N : Nat} {e : E5} {c : R5} {l1 l2 l3 l4 l5 l6 l7 kd how p : Int32}
theorem CE_b (h : CE v w i l e) : CE w w i l e := ⟨cfr_rf, h.2⟩
theorem CE_mI {k : Nat} {a : Int32} (h : CE w w i l e) : CE (xmI w m k a) (xmI w m k a) i l e := ⟨cfr_rf, h.2.1, h.2.2.1, h.2.2.2⟩
theorem CE_mL {k : Nat} {a : Int64} (h : CE w w i l e) : CE (xmL w m k a) (xmL w m k a) i l e := ⟨cfr_rf, h.2.1, h.2.2.1, h.2.2.2⟩
theorem RE_b (h : RE u x i o l c) : RE x x i o l c := ⟨rfr_rf, h.2⟩
theorem has_fits {k : Int32} {y : Int64} : r_has k y = 0 ↔ n_fits k y = 0 := by
  unfold r_has n_fits
  rw [q_cut]
theorem j_dv1 {γ : Type} {A : Int32 → CSt → γ → RSt → Prop} {k' : Int32 → RSt → Option (γ × RSt)} (hV : EV1 w x1 n) (h : CE w w i l e) (h' : RE x1 x i o l c) (hi : i ≤ n) (hD : dV1 (tyF w) i (.inr j)) (h10 : mL w m 10 = 0)
    (kk : ∀ w' x' fs c', cfT [m] w w' → (∀ k, mI w' m k = mI w m k) → mL w' m 0 = mL w m 0 → mL w' m 10 = fs → CE w' w' j l e → RE x1 x' j o l c' → j ≤ n → jx (B_X3_oneVariable_112 N l1 kd p m w') (bn (B_one_150 N kd l2 l3 l4 l5 l6 fs x') k') A) (hs : ∀ r z, KP (k' r z) z) : jx (B_X3_oneVariable_83 N l1 kd p m w) (bn (B_one_97 N kd l2 l3 l4 l5 l6 x) k') A := by
  have hj := hV.2.2.2.2.1
  have hn2 := hV.2.1.2.2
  unfold B_X3_oneVariable_83 B_one_97
  rw [bn_as]
  rcases oF_r hD with ⟨z, q⟩ | ⟨z, q⟩
  · have hil : i < n := hV.lt hi (by rw [z]; exact nEnd (by decide) (by decide) (by decide))
    refine k2_if h (fun _ => ?_) (fun y => absurd z y)
    refine k2_next hV.1 h hil (fun w2 g2 => ?_)
    refine jx_r (y_has hV.2.1 (t := 61) (by decide +kernel) (nEnd (by decide) (by decide) (by decide)) h' hi (fun _ _ x2 r2 => ?_) (fun y => absurd z y))
    rw [if_neg (by decide), bn_as]
    refine jx_l ?_
    have hD2 : dC (tyF w) (i + 1) (.inr j) := q
    have hs2 : ∀ r z, KP (bn (if r_has kd (z.2.1 77) = (0 : Int32) then (B_one_135 N kd l2 l3 l4 l5 l6 (z.2.1 77) 1 z) else (B_one_135 N kd l2 l3 l4 l5 l6 (z.2.1 77) 0 z)) k') z := fun (_ : Int32) _ => KP_bn (by repeat' (first | exact KP_some kp_rf | with_reducible refine KP_bn ?_ (fun _ _ => ?_) | with_reducible refine KP_if ?_ ?_ | with_reducible refine KP_rd (fun _ => ?_) | with_reducible refine KP_zr ?_ | (with_reducible refine KP_pu2 ?_ ?_; first | exact ks_sI (by decide) kp_rf | exact ks_sL kp_rf | exact ks_sA (by decide) kp_rf | exact ks_sB (by decide) kp_rf) | (with_reducible refine KP_wr2 ?_ ?_; first | exact ks_sA (by decide) kp_rf | exact ks_sB (by decide) kp_rf) | with_reducible exact h_ro _ _ _ _ | with_reducible exact sk_F_is | with_reducible exact sk_F_take | with_reducible exact sk_F_emit | with_reducible exact sk_F_wrong | with_reducible exact sk_F_cost | with_reducible exact sk_F_stuck | with_reducible exact sk_F_ends | with_reducible exact sk_F_begins | with_reducible exact sk_F_opens | with_reducible exact sk_F_has | with_reducible exact sk_F_isNumber | with_reducible exact sk_F_isNext | with_reducible exact sk_F_push | with_reducible exact sk_F_lead | with_reducible exact sk_F_here | with_reducible exact sk_F_kind | with_reducible exact sk_F_isKind | with_reducible exact sk_F_own | with_reducible exact sk_F_constant | with_reducible exact sk_F_bounded | with_reducible exact sk_F_joined | with_reducible exact sk_F_strength | with_reducible exact sk_F_leadAll | with_reducible exact sk_F_loop | with_reducible exact sk_F_label | with_reducible exact sk_F_leaves | with_reducible exact sk_F_telling | with_reducible exact sk_F_local | with_reducible exact sk_F_addSlot | with_reducible exact sk_F_addVariable | with_reducible exact sk_F_isTooWide | with_reducible exact sk_F_named | with_reducible exact sk_F_slotOf | with_reducible exact sk_F_bad | with_reducible exact sk_G_expression | with_reducible exact sk_G_spot | with_reducible exact sk_G_body | with_reducible exact sk_G_stat | with_reducible exact sk_B_one_150 | with_reducible exact sk_B_one_135 | with_reducible exact sk_B_one_97 | with_reducible exact sk_B_one_46 | with_reducible exact sk_B_one_0 | with_reducible exact sk_F_one)) hs
    refine i_const hV hD2 g2 r2 hil (fun w3 z t ej ht g3 r3 => ?_) hs2
    have e77 : z.2.1 77 = cvR w x1 (i + 1) t := by
      have := r3.2.2.2.2.2
      rw [show z.2.1 77 = (eR z).2.2.2.2 from rfl, this]
    rw [e77]
    generalize cvR w x1 (i + 1) t = fs at r3 ⊢
    unfold B_X3_constant_60
    have n65 : (z.1 65 - 1).toNatClampNeg = t := by
      have := r3.2.2.1
      have e1 : (1 : Int32).toInt = 1 := by decide
      refine n_of ?_
      rw [tI_sub (by omega) (by omega), e1, this]
      omega
    by_cases hf : n_fits kd fs = 0
    · rw [if_pos hf, if_pos (has_fits.mpr hf), bt_as]
      refine jx_ref (pp_to hs ?_)
      unfold B_one_135
      refine pp_rd ?_
      rw [n65, r3.row (by decide), hV.pl (Nat.le_of_lt ht)]
      exact y_bad hj r3 (by decide) (by decide) (fun _ _ => by repeat' (first | exact KP_some kp_rf | with_reducible refine KP_bn ?_ (fun _ _ => ?_) | with_reducible refine KP_if ?_ ?_ | with_reducible refine KP_rd (fun _ => ?_) | with_reducible refine KP_zr ?_ | (with_reducible refine KP_pu2 ?_ ?_; first | exact ks_sI (by decide) kp_rf | exact ks_sL kp_rf | exact ks_sA (by decide) kp_rf | exact ks_sB (by decide) kp_rf) | (with_reducible refine KP_wr2 ?_ ?_; first | exact ks_sA (by decide) kp_rf | exact ks_sB (by decide) kp_rf) | with_reducible exact h_ro _ _ _ _ | with_reducible exact sk_F_is | with_reducible exact sk_F_take | with_reducible exact sk_F_emit | with_reducible exact sk_F_wrong | with_reducible exact sk_F_cost | with_reducible exact sk_F_stuck | with_reducible exact sk_F_ends | with_reducible exact sk_F_begins | with_reducible exact sk_F_opens | with_reducible exact sk_F_has | with_reducible exact sk_F_isNumber | with_reducible exact sk_F_isNext | with_reducible exact sk_F_push | with_reducible exact sk_F_lead | with_reducible exact sk_F_here | with_reducible exact sk_F_kind | with_reducible exact sk_F_isKind | with_reducible exact sk_F_own | with_reducible exact sk_F_constant | with_reducible exact sk_F_bounded | with_reducible exact sk_F_joined | with_reducible exact sk_F_strength | with_reducible exact sk_F_leadAll | with_reducible exact sk_F_loop | with_reducible exact sk_F_label | with_reducible exact sk_F_leaves | with_reducible exact sk_F_telling | with_reducible exact sk_F_local | with_reducible exact sk_F_addSlot | with_reducible exact sk_F_addVariable | with_reducible exact sk_F_isTooWide | with_reducible exact sk_F_named | with_reducible exact sk_F_slotOf | with_reducible exact sk_F_bad | with_reducible exact sk_G_expression | with_reducible exact sk_G_spot | with_reducible exact sk_G_body | with_reducible exact sk_G_stat | with_reducible exact sk_B_one_150 | with_reducible exact sk_B_one_135 | with_reducible exact sk_B_one_97 | with_reducible exact sk_B_one_46 | with_reducible exact sk_B_one_0 | with_reducible exact sk_F_one))
    · rw [if_neg hf, if_neg (fun y => hf (has_fits.mp y)), bt_inr]
      refine pq_pc (jx_r ?_)
      unfold B_one_135
      rw [bn_rd]
      refine pp_rd ?_
      rw [bn_as]
      refine y_ok rfl (jx_l ?_)
      refine kk _ z fs _ (cfT_tr (cfT_c g3.1) (cfT_mL (List.mem_singleton.mpr rfl))) (fun k => cfr_m g3.1 m k) ?_ mL_eq (CE_mL (CE_b g3)) r3 (by omega)
      rw [mL_ne (Or.inr (by decide))]
      exact cfr_l g3.1 m 0
  · have hj1 := oE_r q
    subst hj1
    refine k2_if h (fun y => absurd y z) (fun _ => ?_)
    refine jx_r (y_has hV.2.1 (t := 61) (by decide +kernel) (nEnd (by decide) (by decide) (by decide)) h' hi (fun y => absurd y z) (fun _ => ?_))
    rw [if_pos rfl]
    exact jx_l (kk w x 0 c cfT_rf (fun _ => rfl) rfl h10 h h' hi)
theorem j_decl {γ : Type} {A : Int32 → CSt → γ → RSt → Prop} {k' : Int32 → RSt → Option (γ × RSt)} (hV : EV1 w1 x1 n) (h : CE w1 w1 (i + 1) l e) (h' : RE x1 x1 i o l c) (hi : i < n) (ho : o < 24) (hD : oF (fun i => tyF w1 i = 91) (oS (oP (tyF w1) True 91) (oS (oT (tyF w1) 129) (oS (oT (tyF w1) 93) (dV1 (tyF w1))))) (dV1 (tyF w1)) (i + 1) (.inr j)) (h10 : mL w1 m 10 = 0) (h8 : mI w1 m 8 = 0)
    (kk : ∀ w' x' sz rw fs c', DCl w1 w' m how kd sz rw fs → B01 rw → 1 ≤ sz.toInt → sz.toInt ≤ 200 → CE w' w' j l e → RE x1 x' j o l c' → j ≤ n → jx (B_X3_oneVariable_112 N l1 kd p m w') (bn (B_one_150 N kd l2 l3 l4 sz rw fs x') k') A) (hs : ∀ r z, KP (k' r z) z) : jx (pc (xmI w1 m 6 how) fun u_21 => pc (xmI u_21 m 5 kd) fun u_22 => pc (xmI u_22 m 7 1) fun u_23 => bc (F_X9_is N 91 u_23) fun r_25 u_24 => if r_25 = (0 : Int32) then (B_X3_oneVariable_83 N l1 kd p m u_24) else (bc (F_X9_next N u_24) fun _ u_27 => pc (xmI u_27 m 8 1) fun u_28 => bt (F_X9_takeBounded N 1 200 u_28) fun r_30 u_29 => pc (xmI u_29 m 7 r_30.toInt32) fun u_32 => bc (F_X9_next N u_32) fun _ u_33 => B_X3_oneVariable_83 N l1 kd p m u_33)) (bn (B_one_46 N kd l2 l3 l4 x1) k') A := by
  have hn2 := hV.2.1.2.2
  have e1 : (1 : Int32).toInt = 1 := by decide
  have e200 : (200 : Int32).toInt = 200 := by decide
  have hm : m ∈ [m] := List.mem_singleton.mpr rfl
  refine pq_pc (pq_pc (pq_pc ?_))
  have g0 : CE (xmI (xmI (xmI w1 m 6 how) m 5 kd) m 7 1) (xmI (xmI (xmI w1 m 6 how) m 5 kd) m 7 1) (i + 1) l e := CE_mI (CE_mI (CE_mI h))
  have f0 : cfT [m] w1 (xmI (xmI (xmI w1 m 6 how) m 5 kd) m 7 1) := cfT_tr (cfT_tr (cfT_mI hm) (cfT_mI hm)) (cfT_mI hm)
  have a6 : mI (xmI (xmI (xmI w1 m 6 how) m 5 kd) m 7 1) m 6 = how := by rw [mI_ne (Or.inr (by decide)), mI_ne (Or.inr (by decide)), mI_eq]
  have a5 : mI (xmI (xmI (xmI w1 m 6 how) m 5 kd) m 7 1) m 5 = kd := by rw [mI_ne (Or.inr (by decide)), mI_eq]
  have a7 : mI (xmI (xmI (xmI w1 m 6 how) m 5 kd) m 7 1) m 7 = 1 := mI_eq
  have ao : ∀ k, k ∉ [5, 6, 7] → mI (xmI (xmI (xmI w1 m 6 how) m 5 kd) m 7 1) m k = mI w1 m k := by
    intro k hk
    simp only [List.mem_cons, List.not_mem_nil, or_false, not_or] at hk
    rw [mI_ne (Or.inr hk.2.2), mI_ne (Or.inr hk.1), mI_ne (Or.inr hk.2.1)]
  have aL : ∀ k, mL (xmI (xmI (xmI w1 m 6 how) m 5 kd) m 7 1) m k = mL w1 m k := fun _ => rfl
  generalize xmI (xmI (xmI w1 m 6 how) m 5 kd) m 7 1 = w2 at g0 f0 a6 a5 a7 ao aL ⊢
  have ty2 : tyF w2 = tyF w1 := tkC_ty (cfT_tk f0)
  have hV2 : EV1 w2 x1 n := hV.tr (cfT_tk f0) tkR_rf
  unfold B_one_46
  rw [bn_pu]
  refine jx_r (y_adv h' (by omega) (fun x2 r2 => ?_))
  rw [bn_as]
  rcases oF_r hD with ⟨z, q⟩ | ⟨z, q⟩
  · obtain ⟨k1, p1, p2⟩ := oS_r q
    obtain ⟨-, -, rfl⟩ := oP_r p1
    obtain ⟨k2, p3, p4⟩ := oS_r p2
    obtain ⟨t3, rfl⟩ := oT_r p3
    obtain ⟨k3, p5, p6⟩ := oS_r p4
    obtain ⟨t5, rfl⟩ := oT_r p5
    have z' : tyF w1 (i + 1) = 91 := z
    have hi1 : i + 1 < n := hV.lt (i := i + 1) hi (by rw [z']; exact nEnd (by decide) (by decide) (by decide))
    have hi2 : i + 1 + 1 < n := hV.lt (i := i + 1 + 1) hi1 (by rw [t3]; exact nEnd (by decide) (by decide) (by decide))
    have hi3 : i + 1 + 1 + 1 < n := hV.lt (i := i + 1 + 1 + 1) hi2 (by rw [t5]; exact nEnd (by decide) (by decide) (by decide))
    refine y_is hV.2.1 (t := 91) (by decide +kernel) r2 hi (fun _ => ?_) (fun y => absurd z' y)
    rw [if_neg (by decide), bn_as]
    refine y_begins hV.2.1 (t := 91) (by decide +kernel) r2 hi1 z' ho (fun x3 r3 => ?_)
    rw [bn_as]
    refine jx_l ?_
    refine k2_if g0 (fun _ => ?_) (fun y => absurd (by rw [ty2]; exact z') y)
    refine k2_next hV2.1 g0 hi1 (fun w3 g3 => pq_pc ?_)
    have f4 : cfT [m] w1 (xmI w3 m 8 1) := cfT_tr f0 (cfT_tr (cfT_c g3.1) (cfT_mI hm))
    have ty4 : tyF (xmI w3 m 8 1) = tyF w1 := tkC_ty (cfT_tk f4)
    have b6 : mI (xmI w3 m 8 1) m 6 = how := by rw [mI_ne (Or.inr (by decide)), cfr_m g3.1]; exact a6
    have b5 : mI (xmI w3 m 8 1) m 5 = kd := by rw [mI_ne (Or.inr (by decide)), cfr_m g3.1]; exact a5
    have b8 : mI (xmI w3 m 8 1) m 8 = 1 := mI_eq
    have bo : ∀ k, k ∉ [5, 6, 7, 8] → mI (xmI w3 m 8 1) m k = mI w1 m k := by
      intro k hk
      rw [mI_ne (Or.inr (fun y => hk (by rw [y]; decide))), cfr_m g3.1]
      exact ao k (fun y => hk (by simp only [List.mem_cons, List.not_mem_nil, or_false] at y ⊢; omega))
    have bL : ∀ k, mL (xmI w3 m 8 1) m k = mL w1 m k := fun k => (cfr_l g3.1 m k).trans (aL k)
    have g4 : CE (xmI w3 m 8 1) (xmI w3 m 8 1) (i + 1 + 1) l e := CE_mI (CE_b g3)
    generalize xmI w3 m 8 1 = w4 at f4 ty4 b6 b5 b8 bo bL g4 ⊢
    have hV4 : EV1 w4 x1 n := hV.tr (cfT_tk f4) tkR_rf
    refine i_bounded hV4 g4 r3 hi2 (by rw [ty4]; exact t3) (by decide) (by decide) (fun y w5 x5 y1 y2 g5 r5 => ?_) (fun _ _ => KP_bn (by repeat' (first | exact KP_some kp_rf | with_reducible refine KP_bn ?_ (fun _ _ => ?_) | with_reducible refine KP_if ?_ ?_ | with_reducible refine KP_rd (fun _ => ?_) | with_reducible refine KP_zr ?_ | (with_reducible refine KP_pu2 ?_ ?_; first | exact ks_sI (by decide) kp_rf | exact ks_sL kp_rf | exact ks_sA (by decide) kp_rf | exact ks_sB (by decide) kp_rf) | (with_reducible refine KP_wr2 ?_ ?_; first | exact ks_sA (by decide) kp_rf | exact ks_sB (by decide) kp_rf) | with_reducible exact h_ro _ _ _ _ | with_reducible exact sk_F_is | with_reducible exact sk_F_take | with_reducible exact sk_F_emit | with_reducible exact sk_F_wrong | with_reducible exact sk_F_cost | with_reducible exact sk_F_stuck | with_reducible exact sk_F_ends | with_reducible exact sk_F_begins | with_reducible exact sk_F_opens | with_reducible exact sk_F_has | with_reducible exact sk_F_isNumber | with_reducible exact sk_F_isNext | with_reducible exact sk_F_push | with_reducible exact sk_F_lead | with_reducible exact sk_F_here | with_reducible exact sk_F_kind | with_reducible exact sk_F_isKind | with_reducible exact sk_F_own | with_reducible exact sk_F_constant | with_reducible exact sk_F_bounded | with_reducible exact sk_F_joined | with_reducible exact sk_F_strength | with_reducible exact sk_F_leadAll | with_reducible exact sk_F_loop | with_reducible exact sk_F_label | with_reducible exact sk_F_leaves | with_reducible exact sk_F_telling | with_reducible exact sk_F_local | with_reducible exact sk_F_addSlot | with_reducible exact sk_F_addVariable | with_reducible exact sk_F_isTooWide | with_reducible exact sk_F_named | with_reducible exact sk_F_slotOf | with_reducible exact sk_F_bad | with_reducible exact sk_G_expression | with_reducible exact sk_G_spot | with_reducible exact sk_G_body | with_reducible exact sk_G_stat | with_reducible exact sk_B_one_150 | with_reducible exact sk_B_one_135 | with_reducible exact sk_B_one_97 | with_reducible exact sk_B_one_46 | with_reducible exact sk_B_one_0 | with_reducible exact sk_F_one)) hs)
    refine pq_pc ?_
    have y1' : ¬ y.toInt < (1 : Int64).toInt := fun q => y1 (Int64.lt_iff_toInt_lt.mpr q)
    have y2' : y.toInt ≤ (200 : Int64).toInt := Int64.le_iff_toInt_le.mp y2
    have eL1 : (1 : Int64).toInt = 1 := by decide
    have eL2 : (200 : Int64).toInt = 200 := by decide
    have ysz : y.toInt32.toInt = y.toInt := by
      rw [Int64.toInt_toInt32]
      exact Int.bmod_eq_of_le (by omega) (by omega)
    have f6 : cfT [m] w1 (xmI w5 m 7 y.toInt32) := cfT_tr f4 (cfT_tr (cfT_c g5.1) (cfT_mI hm))
    have c6 : mI (xmI w5 m 7 y.toInt32) m 6 = how := by rw [mI_ne (Or.inr (by decide)), cfr_m g5.1]; exact b6
    have c5 : mI (xmI w5 m 7 y.toInt32) m 5 = kd := by rw [mI_ne (Or.inr (by decide)), cfr_m g5.1]; exact b5
    have c8 : mI (xmI w5 m 7 y.toInt32) m 8 = 1 := by rw [mI_ne (Or.inr (by decide)), cfr_m g5.1]; exact b8
    have c7 : mI (xmI w5 m 7 y.toInt32) m 7 = y.toInt32 := mI_eq
    have co : ∀ k, k ∉ [5, 6, 7, 8] → mI (xmI w5 m 7 y.toInt32) m k = mI w1 m k := by
      intro k hk
      rw [mI_ne (Or.inr (fun y => hk (by rw [y]; decide))), cfr_m g5.1]
      exact bo k hk
    have cL : ∀ k, mL (xmI w5 m 7 y.toInt32) m k = mL w1 m k := fun k => (cfr_l g5.1 m k).trans (bL k)
    have g6 : CE (xmI w5 m 7 y.toInt32) (xmI w5 m 7 y.toInt32) (i + 1 + 1 + 1) l e := CE_mI (CE_b g5)
    generalize xmI w5 m 7 y.toInt32 = w6 at f6 c6 c5 c8 c7 co cL g6 ⊢
    have hV6 : EV1 w6 x1 n := hV.tr (cfT_tk f6) tkR_rf
    refine k2_next hV6.1 g6 hi3 (fun w7 g7 => ?_)
    rw [bn_as]
    refine jx_r (y_ends hV.2.1 (t := 93) (by decide +kernel) r5 hi3 t5 (by omega) (fun x8 r8 => jx_l ?_))
    have f7 : cfT [m] w1 w7 := cfT_tr f6 (cfT_c g7.1)
    have hV7 : EV1 w7 x1 n := hV.tr (cfT_tk f7) tkR_rf
    refine j_dv1 hV7 (CE_b g7) r8 hi3 (by rw [tkC_ty (cfT_tk f7)]; exact p6) (by rw [cfr_l g7.1, cL]; exact h10) (fun w' x' fs c' q1 q2 q3 q4 q5 q6 q7 => ?_) hs
    refine kk w' x' y.toInt32 1 fs c' ⟨cfT_tr f7 q1, ?_, ?_, ?_, ?_, q4, fun k hk => ?_, ?_⟩ (Or.inr rfl) (by omega) (by omega) q5 q6 q7
    · rw [q2, cfr_m g7.1]; exact c6
    · rw [q2, cfr_m g7.1]; exact c5
    · rw [q2, cfr_m g7.1]; exact c7
    · rw [q2, cfr_m g7.1]; exact c8
    · rw [q2, cfr_m g7.1]; exact co k hk
    · rw [q3, cfr_l g7.1]; exact cL 0
  · have z' : ¬ tyF w1 (i + 1) = 91 := z
    refine y_is hV.2.1 (t := 91) (by decide +kernel) r2 hi (fun y => absurd y z') (fun _ => ?_)
    rw [if_pos rfl]
    refine jx_l ?_
    refine k2_if g0 (fun y => absurd (by rw [← ty2]; exact y) z') (fun _ => ?_)
    refine j_dv1 hV2 g0 r2 hi (by rw [ty2]; exact q) (by rw [aL]; exact h10) (fun w' x' fs c' q1 q2 q3 q4 q5 q6 q7 => ?_) hs
    refine kk w' x' 1 0 fs c' ⟨cfT_tr f0 q1, ?_, ?_, ?_, ?_, q4, fun k hk => ?_, ?_⟩ (Or.inl rfl) (by rw [e1]; omega) (by rw [e1]; omega) q5 q6 q7
    · rw [q2]; exact a6
    · rw [q2]; exact a5
    · rw [q2]; exact a7
    · rw [q2, ao 8 (by decide)]; exact h8
    · rw [q2]
      exact ao k (fun y => hk (by simp only [List.mem_cons, List.not_mem_nil, or_false] at y ⊢; omega))
    · rw [q3]; exact aL 0
end Dcl
