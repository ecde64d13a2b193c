/-! The second pass: Items. Parameters, lists of locals, Stats of a routine. -/
section Pr
variable {v w : CSt} {u x : RSt} {q s T G n i j o o2 l N r K F P : Nat} {e : E5} {c : R5} {kd how p l1 l2 so : Int32} {ty : Nat → Int32}
/-- one parameter -/
theorem j_par (hI : IP ty q s n o r v u i) (hD : dPar ty i (.inr j)) (hi : i ≤ n) : jx (B_X3_parameter_19 N v) (F_parameter N u) (fun _ w _ x => IP ty q s n o r w x j ∧ j ≤ n) := by
  obtain ⟨T, G, K, F, hIT, hO, rfl⟩ := hI
  have hV := hIT.1
  have h := hIT.2.1
  have h' := hIT.2.2.1
  have hn2 := hV.2.1.2.2
  obtain ⟨k1, p1, p2⟩ := oS_r hD
  obtain ⟨tk, rfl⟩ := oK_r p1
  obtain ⟨t2, rfl⟩ := oT_r p2
  have hil : i < n := hV.lt hi (nEk tk)
  have hi1 : i + 1 < n := hV.lt (i := i + 1) hil (by rw [t2]; exact nEnd (by decide) (by decide) (by decide))
  unfold B_X3_parameter_19 F_parameter B_parameter_0
  refine k2_kind hV.1 h hil (fun w1 g1 => ?_)
  refine jx_r (y_kind hV.2.1 h' hil tk (fun x1 r1 => ?_))
  have hI1 := IT_mv hIT g1 hIT.2.2.2.1 r1
  have hO1 := OPN_mv hO g1 r1
  have ty1 : tyF w1 = tyF v := tkC_ty (cfT_tk (M := []) (cfT_c g1.1))
  have hkd := KD_ty tk
  generalize tyF v i - 12 = kd at hkd ⊢
  rw [← ty1] at t2 ⊢
  clear g1 r1 hIT hO h h' hV
  obtain ⟨hV, h, h', h16, hTR, hT2⟩ := id hI1
  have hj := hV.2.2.2.2.1
  refine y_is hV.2.1 (t := 128) (by decide +kernel) h' (Nat.le_of_lt hi1) (fun _ => ?_) (fun y => absurd t2 y)
  rw [if_neg (by decide)]
  refine jx_l (k2_here h ?_)
  refine j_newL (so := 5) (l1 := 1) hV hTR hO1 h h' hi1 t2 (Or.inl ⟨rfl, rfl⟩) (fun w x hT hP f1 hN hC hX => ?_) (fun _ _ => by repeat' (first | exact KP_some kp_rf | with_reducible refine KP_bn ?_ (fun _ _ => ?_) | with_reducible refine KP_if ?_ ?_ | with_reducible refine KP_rd (fun _ => ?_) | with_reducible refine KP_zr ?_ | (with_reducible refine KP_pu2 ?_ ?_; first | exact ks_sI (by decide) kp_rf | exact ks_sL kp_rf | exact ks_sA (by decide) kp_rf | exact ks_sB (by decide) kp_rf) | (with_reducible refine KP_wr2 ?_ ?_; first | exact ks_sA (by decide) kp_rf | exact ks_sB (by decide) kp_rf) | with_reducible exact h_ro _ _ _ _ | with_reducible exact sk_F_is | with_reducible exact sk_F_take | with_reducible exact sk_F_emit | with_reducible exact sk_F_wrong | with_reducible exact sk_F_cost | with_reducible exact sk_F_stuck | with_reducible exact sk_F_ends | with_reducible exact sk_F_begins | with_reducible exact sk_F_opens | with_reducible exact sk_F_has | with_reducible exact sk_F_isNumber | with_reducible exact sk_F_isNext | with_reducible exact sk_F_push | with_reducible exact sk_F_lead | with_reducible exact sk_F_here | with_reducible exact sk_F_kind | with_reducible exact sk_F_isKind | with_reducible exact sk_F_own | with_reducible exact sk_F_constant | with_reducible exact sk_F_bounded | with_reducible exact sk_F_joined | with_reducible exact sk_F_strength | with_reducible exact sk_F_leadAll | with_reducible exact sk_F_loop | with_reducible exact sk_F_label | with_reducible exact sk_F_leaves | with_reducible exact sk_F_telling | with_reducible exact sk_F_local | with_reducible exact sk_F_addSlot | with_reducible exact sk_F_addVariable | with_reducible exact sk_F_isTooWide | with_reducible exact sk_F_named | with_reducible exact sk_F_slotOf | with_reducible exact sk_F_bad | with_reducible exact sk_G_expression | with_reducible exact sk_G_spot | with_reducible exact sk_G_body | with_reducible exact sk_G_stat | with_reducible exact sk_B_parameter_62 | with_reducible exact sk_B_parameter_0 | with_reducible exact sk_F_parameter))
  have hr0 : RE x x (i + 1) o 0 (eR x1) := LCr_re hX h'
  have x69 : ¬ x.1 69 = 0 := by rw [hX.1 69 (by decide)]; exact hj
  have hm : 169 * q + T ∈ [169 * q + T] := List.mem_singleton.mpr rfl
  refine pq_ok (fun _ => pq_pc (pq_pc ?_))
  have D0 : DCl w (xmI (xmI w (169 * q + T) 5 kd) (169 * q + T) 7 1) (169 * q + T) 0 kd 1 0 0 := by
    obtain ⟨g1, g2, g3, g4, g5, g6, g7, g8, g9, g10, g11, g12⟩ := hN.2.2.2.2.2.2.2.2.2.2.2.1
    refine ⟨cfT_tr (cfT_mI hm) (cfT_mI hm), ?_, ?_, mI_eq, ?_, g2, fun k hk => ?_, rfl⟩
    · rw [mI_ne (Or.inr (by decide)), mI_ne (Or.inr (by decide))]
      exact g6
    · rw [mI_ne (Or.inr (by decide)), mI_eq]
    · rw [mI_ne (Or.inr (by decide)), mI_ne (Or.inr (by decide))]
      exact g8
    · simp only [List.mem_cons, List.not_mem_nil, or_false, not_or] at hk
      rw [mI_ne (Or.inr hk.2.2.1), mI_ne (Or.inr hk.1)]
  have C0 : CE (xmI (xmI w (169 * q + T) 5 kd) (169 * q + T) 7 1) (xmI (xmI w (169 * q + T) 5 kd) (169 * q + T) 7 1) (i + 1 + 1) 0 (eC w1) := CE_mI (CE_mI hC)
  generalize xmI (xmI w (169 * q + T) 5 kd) (169 * q + T) 7 1 = w2 at D0 C0 ⊢
  obtain ⟨q1, q2, q3, q4, q5⟩ := NGl_own hTR hO1 hN D0
  have e73 : x.1 73 = mI w1 (169 * q + r) 7 := by rw [hX.1 73 (by decide)]; exact hO1.2.2.2.2.2.2.2.2.2.2
  have hsum : mI w2 (169 * q + r) 7 + mI w2 (169 * q + T) 7 = x.1 73 + 1 := by rw [q4, D0.2.2.2.1, e73]
  have hrT := hO1.1
  have eI1 : (1 : Int32).toInt = 1 := by decide
  refine j_join (d := 1) q1 q2 q3 (by omega) (by omega) (by rw [q5]; rfl) (fun w3 hJ hle => ?_) (fun hle => ?_)
  · rw [hsum] at hle
    refine jx_r (pp_bn (y_slot hr0 x69 hr0.nat (fun _ x3 hA => ?_) (fun y => absurd hle y)))
    obtain ⟨hc3, he3⟩ := JNc_ce hJ C0
    have h163 : (eC w3).1 = 0 := by rw [he3]; exact h16
    have y67 : x3.1 67 = 0 := by rw [hA.1 67 (by decide)]; exact hr0.2.1
    have y69 : ¬ x3.1 69 = 0 := by rw [hA.1 69 (by decide)]; exact x69
    have y71 : (x3.1 71).toNatClampNeg = bk w1 (169 * q + r) s := by
      rw [hA.1 71 (by decide), hX.1 71 (by decide)]
      exact n_of hO1.2.2.2.2.2.2.2.2.2.1
    rw [if_neg y69, if_pos y67]
    refine pp_rd (pp_wr ?_)
    rw [y71]
    unfold B_parameter_62
    refine pp_pu ?_
    have F4 : FX [65] [30] [] x3 (sI (sA x3 30 (bk w1 (169 * q + r) s) (x3.2.2.1 30 (bk w1 (169 * q + r) s) + 1)) 65 (x3.1 65 + 1)) := (FX.rf.sa (by decide)).si (by decide)
    have hr4 : RE (sI (sA x3 30 (bk w1 (169 * q + r) s) (x3.2.2.1 30 (bk w1 (169 * q + r) s) + 1)) 65 (x3.1 65 + 1)) (sI (sA x3 30 (bk w1 (169 * q + r) s) (x3.2.2.1 30 (bk w1 (169 * q + r) s) + 1)) 65 (x3.1 65 + 1)) (i + 1 + 1) o 0 (eR (sI (sA x3 30 (bk w1 (169 * q + r) s) (x3.2.2.1 30 (bk w1 (169 * q + r) s) + 1)) 65 (x3.1 65 + 1))) := by
      obtain ⟨-, b1, b2, b3, b4, b5⟩ := hr0
      refine ⟨rfr_rf, y67, ?_, ?_, ?_, rfl⟩
      · show (x3.1 65 + 1).toInt = _
        rw [hA.1 65 (by decide), tI_add (by omega) (by omega), eI1, b2]
        omega
      · show (x3.1 66).toInt = _
        rw [hA.1 66 (by decide)]; exact b3
      · show (x3.1 74).toInt = _
        rw [hA.1 74 (by decide)]; exact b4
    obtain ⟨y1, y2, y3⟩ := IT_loc (P' := K + 1) (d := 1) hI1 hO1 hT (Or.inl ⟨rfl, rfl, hP rfl, rfl, rfl⟩) ((hV.2.2.1 _ hi1).2.2.2.2 t2) f1 hN hX D0 rfr_rf hkd (Or.inl rfl) (by rw [eI1]; omega) (by rw [eI1]; omega) (by rw [← e73]; exact hle) hJ h163 (by rw [he3]; exact hc3) hA F4 sA_at (fun y hy => if_neg hy) hr4
    exact pp_some (pq_some (Or.inr ⟨0, rfl, ⟨T + 1, G, K + 1, F, y1, y2, y3⟩, hi1⟩))
  · rw [hsum] at hle
    refine pp_bn (y_slot hr0 x69 hr0.nat (fun y => absurd y hle) (fun _ r y a1 a2 => pp_flt (by repeat' (first | exact KP_some kp_rf | with_reducible refine KP_bn ?_ (fun _ _ => ?_) | with_reducible refine KP_if ?_ ?_ | with_reducible refine KP_rd (fun _ => ?_) | with_reducible refine KP_zr ?_ | (with_reducible refine KP_pu2 ?_ ?_; first | exact ks_sI (by decide) kp_rf | exact ks_sL kp_rf | exact ks_sA (by decide) kp_rf | exact ks_sB (by decide) kp_rf) | (with_reducible refine KP_wr2 ?_ ?_; first | exact ks_sA (by decide) kp_rf | exact ks_sB (by decide) kp_rf) | with_reducible exact h_ro _ _ _ _ | with_reducible exact sk_F_is | with_reducible exact sk_F_take | with_reducible exact sk_F_emit | with_reducible exact sk_F_wrong | with_reducible exact sk_F_cost | with_reducible exact sk_F_stuck | with_reducible exact sk_F_ends | with_reducible exact sk_F_begins | with_reducible exact sk_F_opens | with_reducible exact sk_F_has | with_reducible exact sk_F_isNumber | with_reducible exact sk_F_isNext | with_reducible exact sk_F_push | with_reducible exact sk_F_lead | with_reducible exact sk_F_here | with_reducible exact sk_F_kind | with_reducible exact sk_F_isKind | with_reducible exact sk_F_own | with_reducible exact sk_F_constant | with_reducible exact sk_F_bounded | with_reducible exact sk_F_joined | with_reducible exact sk_F_strength | with_reducible exact sk_F_leadAll | with_reducible exact sk_F_loop | with_reducible exact sk_F_label | with_reducible exact sk_F_leaves | with_reducible exact sk_F_telling | with_reducible exact sk_F_local | with_reducible exact sk_F_addSlot | with_reducible exact sk_F_addVariable | with_reducible exact sk_F_isTooWide | with_reducible exact sk_F_named | with_reducible exact sk_F_slotOf | with_reducible exact sk_F_bad | with_reducible exact sk_G_expression | with_reducible exact sk_G_spot | with_reducible exact sk_G_body | with_reducible exact sk_G_stat | with_reducible exact sk_B_parameter_62 | with_reducible exact sk_B_parameter_0 | with_reducible exact sk_F_parameter)) a1 ?_))
    have e3 : x.2.2.1 3 = x1.2.2.1 3 := by rw [hX.2.1]
    rw [a2, e3]
    exact (hV.pl (Nat.le_of_lt hi1)).symm
/-- the reference's loop over the Stats of a routine is that of a body -/
theorem part_body : ∀ M u, LP_part_414 N M (l1, l2, u) = bn (LP_body_7 N (FS_ N 100) M u) (fun _ u_1 => if l1 = (0 : Int32) then (bn (F_emit N 33 0 0 u_1) fun r_4 u_3 => pu (sI u_3 70 0) fun u_5 => some (0, u_5)) else (bn (F_push N 0 u_1) fun _ u_6 => bn (F_emit N 34 l2 0 u_6) fun r_8 u_7 => pu (sI u_7 70 0) fun u_9 => some (0, u_9))) := by
  intro M
  induction M with
  | zero => intro u; rfl
  | succ M ih =>
    intro u
    show B_part_414 N (LP_part_414 N M) l1 l2 u = bn (B_body_7 N (FS_ N 100) (LP_body_7 N (FS_ N 100) M) u) _
    unfold B_part_414 B_body_7
    by_cases z : u.1 67 = 0
    · rw [if_pos z, if_pos z, bn_as]
      congr 1
      funext r w
      by_cases y : r = 0
      · rw [if_pos y, if_pos y, bn_as]
        show bn (FS_ N 100 1 0 0 w) _ = bn (FS_ N 100 1 0 0 w) _
        congr 1
        funext r2 w2
        exact ih w2
      · rw [if_neg y, if_neg y]
        unfold B_part_438 B_body_31
        rw [bn_as]
        rfl
    · rw [if_neg z, if_neg z]
      unfold B_part_438 B_body_31
      rw [bn_as]
      rfl
/-- locals, Stats, the end of a routine -/
theorem IT_13 {m : Nat} {a : Int32} (hI : IT v u q s n i o T G) : IT (xmI v m 13 a) u q s n i o T G := by
  obtain ⟨hV, h, h', h16, hTR, hT2⟩ := hI
  have hn : ∀ y, CNa v (xmI v m 13 a) q y := fun y => ⟨fun k hk => mI_ne (Or.inr hk), fun _ => rfl⟩
  exact ⟨hV.tr ⟨rfl, rfl, rfl, rfl, rfl, rfl, rfl, rfl⟩ tkR_rf, CE_mI h, h', h16, TR_cong hTR hn rfl rfl rfl (FX.rf (a := []) (b := []) (c := [])) (by decide) (by decide) (by decide), TR2_cong hTR hT2 hn rfl rfl (fun _ _ => rfl) rfl (FX.rf (a := []) (b := []) (c := [])) (by decide) (by decide) (by decide)⟩
end Pr
