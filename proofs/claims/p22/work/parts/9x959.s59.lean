/-! The second pass: Items. Parameters and locals, both. -/
/-- within a routine, between two names -/
def IL (ty : Nat → Int32) (q s n o r : Nat) (v : CSt) (u : RSt) (i : Nat) : Prop := ∃ T G K F P, IT v u q s n i o T G ∧ OPN v u q s T r K F P ∧ tyF v = ty
/-- and while its parameters are told -/
def IP (ty : Nat → Int32) (q s n o r : Nat) (v : CSt) (u : RSt) (i : Nat) : Prop := ∃ T G K F, IT v u q s n i o T G ∧ OPN v u q s T r K F K ∧ tyF v = ty
section Lb
variable {v w : CSt} {u x : RSt} {q s T G n i j o o2 l N r K F P : Nat} {e : E5} {c : R5} {kd how p : Int32} {ty : Nat → Int32}
theorem OPN_cong {a b c5 : List Nat} (h : OPN v u q s T r K F P) (hn : ∀ y, CNa v w q y) (h15 : pI w q 15 = pI v q 15) (hf : FX a b c5 u x) (ha : ∀ k, k ∈ [70, 71, 72, 73] → k ∉ a) (hb : ∀ k, k ∈ [20, 21, 22, 23, 27, 28, 29, 30, 31, 33] → k ∉ b) (hc : ∀ k, k ∈ [24, 25, 26] → k ∉ c5) : OPN w x q s T r K F P := by
  obtain ⟨o1, o2, o3, o4, o5, o6, o7, o8, o9, o10, o11⟩ := h
  have a9 := o4.2.2.2.2.2.2.2.2.1
  have n0 := (hn r).1
  have rs : RSx u x s := RSx_f hf (fun k hk => hb k (by simp only [List.mem_cons, List.not_mem_nil, or_false] at hk ⊢; omega)) hc a9
  have eb : bk w (169 * q + r) s = bk v (169 * q + r) s := by
    unfold bk
    rw [n0 2 (by decide), n0 4 (by decide)]
  refine ⟨o1, by rw [h15]; exact o2, by rw [n0 2 (by decide)]; exact o3, RRr_tr o4 (fun y _ _ => hn y) (fun d hd => by rw [hf.2.1 d (hb d (by simp only [List.mem_cons, List.not_mem_nil, or_false] at hd ⊢; omega))]) rs (Nat.le_refl _), o5, by rw [hf.1 72 (ha 72 (by decide))]; exact o6, by rw [hf.2.1 27 (hb 27 (by decide))]; exact o7, by rw [hf.1 70 (ha 70 (by decide))]; exact o8, by rw [n0 2 (by decide), hf.1 70 (ha 70 (by decide))]; exact o9, by rw [hf.1 71 (ha 71 (by decide)), eb]; exact o10, by rw [hf.1 73 (ha 73 (by decide)), n0 7 (by decide)]; exact o11⟩
theorem OPN_mv (h : OPN v u q s T r K F P) (hc : CE v w j 0 e) (hr : RE u x i o2 0 c) : OPN w x q s T r K F P := OPN_cong h (CNa_c hc.1) (hc.pi q (by decide)) (FX_r hr.1) (by decide) (by decide) (by decide)
theorem OPN.own (h : OPN v u q s T r K F P) : OWN v u q s T := Or.inr ⟨r, K, F, P, h⟩
theorem IL_b : IVb ty n o (IL ty q s n o r) := by
  refine ⟨fun v u i h => ?_, fun v u w x i j e c h hc h0 hr => ?_⟩
  · obtain ⟨T, G, K, F, P, hI, hO, ht⟩ := h
    exact ⟨hI.1, hI.2.1, hI.2.2.2.1, hI.2.2.1, ht⟩
  · obtain ⟨T, G, K, F, P, hI, hO, ht⟩ := h
    exact ⟨T, G, K, F, P, IT_mv hI hc h0 hr, OPN_mv hO hc hr, (tkC_ty (cfT_tk (M := []) (cfT_c hc.1))).trans ht⟩
theorem IP_mv {v w : CSt} {u x : RSt} (h : IP ty q s n o r v u i) (hc : CE v w j 0 e) (h0 : e.1 = 0) (hr : RE u x j o2 0 c) : IP ty q s n o2 r w x j := by
  obtain ⟨T, G, K, F, hI, hO, ht⟩ := h
  exact ⟨T, G, K, F, IT_mv hI hc h0 hr, OPN_mv hO hc hr, (tkC_ty (cfT_tk (M := []) (cfT_c hc.1))).trans ht⟩
theorem IP.il (h : IP ty q s n o r v u i) : IL ty q s n o r v u i := by
  obtain ⟨T, G, K, F, hI, hO, ht⟩ := h
  exact ⟨T, G, K, F, K, hI, hO, ht⟩
/-- what a routine's NAME tells behind newName and the declaration -/
theorem NGl_own {so t : Int32} {H : Int64} {w2 : CSt} {sz rw : Int32} {fs : Int64} (hTR : TR v u q s T G) (hO : OPN v u q s T r K F P) (hN : NGl v w q T so H t) (hD : DCl w w2 (169 * q + T) how kd sz rw fs) : cR w2 2 = q ∧ (pI w2 q 15).toInt = (r : Int) ∧ (pI w2 q 12).toInt = (T + 1 : Nat) ∧ mI w2 (169 * q + r) 7 = mI v (169 * q + r) 7 ∧ mI w2 (169 * q + T) 2 = so := by
  obtain ⟨n1, n2, n3, n4, n5, n6, n7, n8, n9, n10, n11, n12, n13⟩ := hN
  obtain ⟨⟨d1, d2, d3, d4, d5, d6, d7, d8, d9⟩, f6, f5, f7, f8, f10, fo, f0⟩ := hD
  obtain ⟨o1, o2, -⟩ := hO
  refine ⟨?_, ?_, ?_, ?_, ?_⟩
  · show w2.2.2.2.2.2.2.2.2.2.2 2 = q
    rw [d9, n9]
    exact hTR.2.2.2.2.2.2.2.2.2.1
  · rw [d4 q 15 (by decide), n4 q 15 (by decide)]; exact o2
  · rw [d4 q 12 (by decide)]; exact n5
  · rw [d7 _ 7 (fun z => by have := List.mem_singleton.mp z; omega), n10 _ 7 (by omega)]
  · rw [fo 2 (by decide)]; exact n12.2.2.2.1
theorem JNc_ce {w w3 : CSt} {m rr : Nat} {d : Int32} (hJ : JNc w w3 m rr d) (h : CE w w j l e) : CE w3 w3 j l e ∧ eC w3 = e := by
  obtain ⟨j1, j2, j3, -⟩ := hJ
  obtain ⟨-, c1, c2, c3⟩ := h
  have f1 : ∀ k, cI w3 k = cI w k := fun k => by
    show w3.1 k = w.1 k
    rw [j1]
  have f3 : ∀ k, cA w3 k = cA w k := fun k => by
    show w3.2.2.1 k = w.2.2.1 k
    rw [j3]
  have e3 : eC w3 = e := by
    rw [← c3]
    unfold eC
    rw [f1, f1, f3, f3]
    show (_, _, w3.2.1 0, _, _) = (_, _, w.2.1 0, _, _)
    rw [j2]
  exact ⟨⟨cfr_rf, by rw [f1]; exact c1, by rw [f1]; exact c2, e3⟩, e3⟩
/-- one local -/
theorem j_oneL (hI : IL ty q s n o r v u i) (hD : dVar ty i (.inr j)) (hi : i ≤ n) (ho : o < 24) (hkd : KD kd) : jx (F_X3_oneVariable N 6 0 kd v) (F_one N kd 0 1 u) (fun _ w _ x => IL ty q s n o r w x j ∧ j ≤ n) := by
  obtain ⟨T, G, K, F, P, hIT, hO, rfl⟩ := hI
  obtain ⟨hV, h, h', h16, hTR, hT2⟩ := id hIT
  obtain ⟨k1, p1, p2⟩ := oS_r hD
  obtain ⟨tt, rfl⟩ := oT_r p1
  have hil : i < n := hV.lt hi (by rw [tt]; exact nEnd (by decide) (by decide) (by decide))
  have hj := hV.2.2.2.2.1
  unfold F_X3_oneVariable B_X3_oneVariable_0 F_one B_one_0
  refine k2_here h ?_
  refine jx_r (y_is hV.2.1 (t := 128) (by decide +kernel) h' hi (fun _ => ?_) (fun y => absurd tt y))
  rw [if_neg (by decide), if_neg (by decide)]
  refine jx_l ?_
  refine j_newL (so := 6) (l1 := 0) hV hTR hO h h' hil tt (Or.inr ⟨rfl, rfl⟩) (fun w x hT hP f1 hN hC hX => ?_) (fun _ _ => by repeat' (first | exact KP_some kp_rf | with_reducible refine KP_bn ?_ (fun _ _ => ?_) | with_reducible refine KP_if ?_ ?_ | with_reducible refine KP_rd (fun _ => ?_) | with_reducible refine KP_zr ?_ | (with_reducible refine KP_pu2 ?_ ?_; first | exact ks_sI (by decide) kp_rf | exact ks_sL kp_rf | exact ks_sA (by decide) kp_rf | exact ks_sB (by decide) kp_rf) | (with_reducible refine KP_wr2 ?_ ?_; first | exact ks_sA (by decide) kp_rf | exact ks_sB (by decide) kp_rf) | with_reducible exact h_ro _ _ _ _ | with_reducible exact sk_F_is | with_reducible exact sk_F_take | with_reducible exact sk_F_emit | with_reducible exact sk_F_wrong | with_reducible exact sk_F_cost | with_reducible exact sk_F_stuck | with_reducible exact sk_F_ends | with_reducible exact sk_F_begins | with_reducible exact sk_F_opens | with_reducible exact sk_F_has | with_reducible exact sk_F_isNumber | with_reducible exact sk_F_isNext | with_reducible exact sk_F_push | with_reducible exact sk_F_lead | with_reducible exact sk_F_here | with_reducible exact sk_F_kind | with_reducible exact sk_F_isKind | with_reducible exact sk_F_own | with_reducible exact sk_F_constant | with_reducible exact sk_F_bounded | with_reducible exact sk_F_joined | with_reducible exact sk_F_strength | with_reducible exact sk_F_leadAll | with_reducible exact sk_F_loop | with_reducible exact sk_F_label | with_reducible exact sk_F_leaves | with_reducible exact sk_F_telling | with_reducible exact sk_F_local | with_reducible exact sk_F_addSlot | with_reducible exact sk_F_addVariable | with_reducible exact sk_F_isTooWide | with_reducible exact sk_F_named | with_reducible exact sk_F_slotOf | with_reducible exact sk_F_bad | with_reducible exact sk_G_expression | with_reducible exact sk_G_spot | with_reducible exact sk_G_body | with_reducible exact sk_G_stat | with_reducible exact sk_B_one_150 | with_reducible exact sk_B_one_135 | with_reducible exact sk_B_one_97 | with_reducible exact sk_B_one_46 | with_reducible exact sk_B_one_0 | with_reducible exact sk_F_one))
  refine pq_ok (fun _ => ?_)
  have hr0 : RE x x i o 0 (eR u) := LCr_re hX h'
  have hV1 : EV1 w x n := hV.tr (NGl_tk hN) (LCr_tk hX)
  have ty1 : tyF w = tyF v := tkC_ty (NGl_tk hN)
  have g10 : mL w (169 * q + T) 10 = 0 := hN.2.2.2.2.2.2.2.2.2.2.2.1.2.1
  have g8 : mI w (169 * q + T) 8 = 0 := hN.2.2.2.2.2.2.2.2.2.2.2.1.2.2.2.2.2.2.2.1
  rw [← bn_id (B_one_46 N kd 0 1 (u.1 65) x)]
  refine j_decl hV1 hC hr0 hil ho (by rw [ty1]; exact p2) g10 g8 (fun w2 x2 sz rw fs c2 hD2 hB z1 z2 hc2 hr2 hjn => ?_) (fun _ _ => KP_some kp_rf)
  rw [bn_id]
  have x69 : ¬ x2.1 69 = 0 := by rw [hr2.sc (by decide), hX.1 69 (by decide)]; exact hj
  obtain ⟨q1, q2, q3, q4, q5⟩ := NGl_own hTR hO hN hD2
  have e73 : x2.1 73 = mI v (169 * q + r) 7 := by rw [hr2.sc (by decide), hX.1 73 (by decide)]; exact hO.2.2.2.2.2.2.2.2.2.2
  have hsum : mI w2 (169 * q + r) 7 + mI w2 (169 * q + T) 7 = x2.1 73 + sz := by rw [q4, hD2.2.2.2.1, e73]
  have hrT := hO.1
  unfold B_X3_oneVariable_112 B_one_150
  rw [if_neg (by decide), if_neg (by decide)]
  refine j_join (d := 0) q1 q2 q3 (by omega) (by omega) (by rw [q5]; rfl) (fun w3 hJ hle => ?_) (fun hle => ?_)
  · rw [hsum] at hle
    refine jx_r (pp_bn (y_slot (RE_b hr2) x69 h'.nat (fun _ x3 hA => ?_) (fun y => absurd hle y)))
    obtain ⟨hc3, he3⟩ := JNc_ce hJ hc2
    have h163 : (eC w3).1 = 0 := by rw [he3]; exact h16
    have hr4 : RE x3 x3 j o 0 (eR x3) := by
      obtain ⟨-, b1, b2, b3, b4, b5⟩ := hr2
      refine ⟨rfr_rf, ?_, ?_, ?_, ?_, rfl⟩
      · rw [hA.1 67 (by decide)]; exact b1
      · rw [hA.1 65 (by decide)]; exact b2
      · rw [hA.1 66 (by decide)]; exact b3
      · rw [hA.1 74 (by decide)]; exact b4
    obtain ⟨y1, y2, y3⟩ := IT_loc (x4 := x3) (P' := P) hIT hO hT (Or.inr ⟨rfl, rfl, rfl⟩) ((hV.2.2.1 i hil).2.2.2.2 tt) f1 hN hX hD2 hr2.1 hkd hB z1 z2 (by rw [← e73]; exact hle) hJ h163 (by rw [he3]; exact hc3) hA FX.rf (Int32.add_zero _).symm (fun _ _ => rfl) hr4
    exact pp_some (pq_some (Or.inr ⟨0, rfl, ⟨T + 1, G, K + 1, F, P, y1, y2, y3⟩, hjn⟩))
  · rw [hsum] at hle
    refine pp_bn (y_slot (RE_b hr2) x69 h'.nat (fun y => absurd y hle) (fun _ r y a1 a2 => pp_some ⟨a1, ?_⟩))
    have e3 : x.2.2.1 3 = u.2.2.1 3 := by rw [hX.2.1]
    rw [a2, hr2.row (by decide), e3]
    exact (hV.pl hi).symm
end Lb
