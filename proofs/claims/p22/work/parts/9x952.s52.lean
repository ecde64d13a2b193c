/-! The second pass: Items. A variable. -/
/-- a variable was put behind the others -/
def AVr (u x : RSt) (nm : Nat) (kd so sz rw at_ cell : Int32) (fs : Int64) : Prop := (∀ k, k ≠ 63 → x.1 k = u.1 k) ∧ (∀ k, k ∉ [10, 11, 12, 13, 14, 15, 19] → x.2.2.1 k = u.2.2.1 k) ∧ (∀ k, k ∉ [16, 17, 18] → x.2.2.2 k = u.2.2.2 k) ∧ x.2.2.1 10 = upd (u.2.2.1 10) (160 * u.1 56 + u.2.2.1 19 (u.1 56).toNatClampNeg).toNatClampNeg kd ∧ x.2.2.1 11 = upd (u.2.2.1 11) (160 * u.1 56 + u.2.2.1 19 (u.1 56).toNatClampNeg).toNatClampNeg sz ∧ x.2.2.1 12 = upd (u.2.2.1 12) (160 * u.1 56 + u.2.2.1 19 (u.1 56).toNatClampNeg).toNatClampNeg so ∧ x.2.2.1 13 = upd (u.2.2.1 13) (160 * u.1 56 + u.2.2.1 19 (u.1 56).toNatClampNeg).toNatClampNeg (vp_nar .boolean rw) ∧ x.2.2.1 14 = upd (u.2.2.1 14) (160 * u.1 56 + u.2.2.1 19 (u.1 56).toNatClampNeg).toNatClampNeg at_ ∧ x.2.2.1 15 = upd (u.2.2.1 15) (160 * u.1 56 + u.2.2.1 19 (u.1 56).toNatClampNeg).toNatClampNeg cell ∧ x.2.2.2 16 = vp_updL (u.2.2.2 16) (160 * u.1 56 + u.2.2.1 19 (u.1 56).toNatClampNeg).toNatClampNeg fs ∧ x.2.2.2 17 = vp_updL (u.2.2.2 17) (160 * u.1 56 + u.2.2.1 19 (u.1 56).toNatClampNeg).toNatClampNeg (u.2.2.2 6 nm) ∧ x.2.2.2 18 = vp_updL (u.2.2.2 18) (160 * u.1 56 + u.2.2.1 19 (u.1 56).toNatClampNeg).toNatClampNeg (u.2.2.2 7 nm) ∧ x.2.2.1 19 = upd (u.2.2.1 19) (u.1 56).toNatClampNeg (u.2.2.1 19 (u.1 56).toNatClampNeg + 1) ∧ x.1 63 = u.1 63 + (if so < 2 then sz else 0)
section Vr
variable {v w w1 : CSt} {u x x1 : RSt} {q s T G n i j o l m N k0 kn nm : Nat} {e : E5} {c : R5} {l1 l2 l3 l4 l5 l6 l7 kd so sz rw at_ how p : Int32} {fs : Int64}
theorem y_av51 (hj : ¬ u.1 69 = 0) (h0 : u.1 67 = 0) (hn : l1.toNatClampNeg = nm) : pp (B_addVariable_51 N l1 kd so sz rw at_ fs u) (fun r x => r = 0 ∧ AVr u x nm kd so sz rw at_ (if so < 2 then u.1 63 else if so = 2 then 6000 + at_ else 5000 + at_) fs) := by
  unfold B_addVariable_51
  rw [if_neg hj, if_pos h0]
  refine pp_rd (pp_wr (pp_wr (pp_wr (pp_wr (pp_wr (pp_wr (pp_rd (pp_wr (pp_rd (pp_wr ?_))))))))))
  rw [hn]
  have fin : ∀ (cell add : Int32) (z : RSt), z = sB (sB (sB (sA (sA (sA (sA (sA u 10 (160 * u.1 56 + u.2.2.1 19 (u.1 56).toNatClampNeg).toNatClampNeg kd) 12 (160 * u.1 56 + u.2.2.1 19 (u.1 56).toNatClampNeg).toNatClampNeg so) 11 (160 * u.1 56 + u.2.2.1 19 (u.1 56).toNatClampNeg).toNatClampNeg sz) 13 (160 * u.1 56 + u.2.2.1 19 (u.1 56).toNatClampNeg).toNatClampNeg (vp_nar .boolean rw)) 14 (160 * u.1 56 + u.2.2.1 19 (u.1 56).toNatClampNeg).toNatClampNeg at_) 16 (160 * u.1 56 + u.2.2.1 19 (u.1 56).toNatClampNeg).toNatClampNeg fs) 17 (160 * u.1 56 + u.2.2.1 19 (u.1 56).toNatClampNeg).toNatClampNeg (u.2.2.2 6 nm)) 18 (160 * u.1 56 + u.2.2.1 19 (u.1 56).toNatClampNeg).toNatClampNeg (u.2.2.2 7 nm) → add = (if so < 2 then sz else 0) → pp (B_addVariable_219 N (u.1 63) add (sA z 15 (160 * u.1 56 + u.2.2.1 19 (u.1 56).toNatClampNeg).toNatClampNeg cell)) (fun r x => r = 0 ∧ AVr u x nm kd so sz rw at_ cell fs) := by
    intro cell add z hz ha
    unfold B_addVariable_219
    refine pp_pu (pp_rd (pp_wr (pp_some ⟨rfl, ?_⟩)))
    subst hz
    refine ⟨fun k hk => ?_, fun k hk => ?_, fun k hk => ?_, rfl, rfl, rfl, rfl, rfl, rfl, rfl, rfl, rfl, rfl, ?_⟩
    · show (sI _ 63 _).1 k = _
      rw [sI_1, if_neg hk]
      rfl
    · simp only [List.mem_cons, List.not_mem_nil, or_false, not_or] at hk
      rw [sA_3, if_neg hk.2.2.2.2.2.2]
      show (sA _ 15 _ _).2.2.1 k = _
      rw [sA_3, if_neg hk.2.2.2.2.2.1]
      show (sA (sA (sA (sA (sA u 10 _ _) 12 _ _) 11 _ _) 13 _ _) 14 _ _).2.2.1 k = _
      rw [sA_3, if_neg hk.2.2.2.2.1, sA_3, if_neg hk.2.2.2.1, sA_3, if_neg hk.2.1, sA_3, if_neg hk.2.2.1, sA_3, if_neg hk.1]
    · simp only [List.mem_cons, List.not_mem_nil, or_false, not_or] at hk
      show (sB (sB (sB _ 16 _ _) 17 _ _) 18 _ _).2.2.2 k = _
      rw [sB_4, if_neg hk.2.2, sB_4, if_neg hk.2.1, sB_4, if_neg hk.1]
      rfl
    · rw [← ha]
      rfl
  have go : ∀ (cell : Int32) (z : RSt), z = sB (sB (sB (sA (sA (sA (sA (sA u 10 (160 * u.1 56 + u.2.2.1 19 (u.1 56).toNatClampNeg).toNatClampNeg kd) 12 (160 * u.1 56 + u.2.2.1 19 (u.1 56).toNatClampNeg).toNatClampNeg so) 11 (160 * u.1 56 + u.2.2.1 19 (u.1 56).toNatClampNeg).toNatClampNeg sz) 13 (160 * u.1 56 + u.2.2.1 19 (u.1 56).toNatClampNeg).toNatClampNeg (vp_nar .boolean rw)) 14 (160 * u.1 56 + u.2.2.1 19 (u.1 56).toNatClampNeg).toNatClampNeg at_) 16 (160 * u.1 56 + u.2.2.1 19 (u.1 56).toNatClampNeg).toNatClampNeg fs) 17 (160 * u.1 56 + u.2.2.1 19 (u.1 56).toNatClampNeg).toNatClampNeg (u.2.2.2 6 nm)) 18 (160 * u.1 56 + u.2.2.1 19 (u.1 56).toNatClampNeg).toNatClampNeg (u.2.2.2 7 nm) → pp (B_addVariable_202 N so sz (160 * u.1 56 + u.2.2.1 19 (u.1 56).toNatClampNeg) cell z) (fun r x => r = 0 ∧ AVr u x nm kd so sz rw at_ cell fs) := by
    intro cell z hz
    unfold B_addVariable_202
    refine pp_wr ?_
    have h63 : (sA z 15 (160 * u.1 56 + u.2.2.1 19 (u.1 56).toNatClampNeg).toNatClampNeg cell).1 63 = u.1 63 := by
      subst hz
      rfl
    rw [h63]
    refine pp_if (fun y => fin cell 0 z hz ?_) (fun y => fin cell sz z hz ?_)
    · rw [if_neg (Int32.not_lt.mpr y)]
    · rw [if_pos (Int32.not_le.mp y)]
  refine pp_if (fun y => pp_if (fun y2 => ?_) (fun y2 => ?_)) (fun y => ?_)
  · rw [if_neg (Int32.not_lt.mpr y), if_pos y2]
    exact go _ _ rfl
  · rw [if_neg (Int32.not_lt.mpr y), if_neg y2]
    exact go _ _ rfl
  · rw [if_pos (Int32.not_le.mp y)]
    exact go _ _ rfl
theorem av_nar (h : B01 rw) : vp_nar .boolean rw = rw := by
  rcases h with h | h <;> (rw [h]; rfl)
theorem j_allot {β γ : Type} {A : β → CSt → γ → RSt → Prop} {k : Int32 → CSt → Option (Sum Nat β × CSt)} {Y : Option (γ × RSt)} (hkn : kd.toInt = (kn : Int)) (kk : cA w 228 kn + sz ≤ 400 → jx (k 0 (xI (xA w 228 kn (cA w 228 kn + sz)) 12 (cI w 12 + sz))) Y A) (kb : ¬ cA w 228 kn + sz ≤ 400 → pp Y (fun _ x => ¬ x.1 67 = 0 ∧ x.1 68 = p)) : jx (bt (F_X3_allot N kd sz p w) k) Y A := by
  refine pq_bt ?_
  unfold F_X3_allot B_X3_allot_0
  refine pq_rd (pq_wc (pq_pc (pq_rd ?_)))
  rw [n_of hkn]
  have e9 : cA (xI (xA w 228 kn (cA w 228 kn + sz)) 12 (cI (xA w 228 kn (cA w 228 kn + sz)) 12 + sz)) 228 kn = cA w 228 kn + sz := xA_at
  rw [e9]
  refine pq_if (fun c => pq_some ⟨(fun _ q => nomatch q), fun b q => ?_⟩) (fun c => ?_)
  · cases q
    exact kk c
  · refine pq_refuse ⟨fun x q => ?_, fun b q => nomatch q⟩
    cases q
    exact pp_m (kb c) (fun _ _ q => Or.inl ⟨rfl, q.1, q.2⟩)
theorem y_addV {Q : Int32 → RSt → Prop} (h' : RE x x j o l c) (hj : ¬ x.1 69 = 0) (hkn : kd.toInt = (kn : Int)) (hso : ¬ (2 : Int32) ≤ so) (hn : l1.toNatClampNeg = nm) (kk : x.2.2.1 64 kn + sz ≤ 400 → ∀ y, AVr (sA x 64 kn (x.2.2.1 64 kn + sz)) y nm kd so sz rw at_ (x.1 63) fs → Q 0 y) (kb : ¬ x.2.2.1 64 kn + sz ≤ 400 → ∀ r y, ¬ y.1 67 = 0 → y.1 68 = x.2.2.1 3 nm → Q r y) : pp (F_addVariable N l1 kd so sz rw at_ fs x) Q := by
  unfold F_addVariable B_addVariable_0
  rw [if_neg hj, if_neg hso]
  refine pp_rd (pp_wr (pp_rd ?_))
  rw [n_of hkn]
  have e9 : (sA x 64 kn (x.2.2.1 64 kn + sz)).2.2.1 64 kn = x.2.2.1 64 kn + sz := sA_at
  rw [e9]
  have hr : RE (sA x 64 kn (x.2.2.1 64 kn + sz)) (sA x 64 kn (x.2.2.1 64 kn + sz)) j o l c := ⟨rfr_rf, h'.2⟩
  refine pp_if (fun y => ?_) (fun y => ?_)
  · unfold B_addVariable_41
    refine pp_rd (y_ok rfl (pp_m (y_av51 hj hr.2.1 hn) (fun r z hz => ?_)))
    rw [hz.1]
    have h2 := hz.2
    rw [if_pos (Int32.not_le.mp hso)] at h2
    exact kk y z h2
  · unfold B_addVariable_41
    refine pp_rd ?_
    rw [hn, sA_ne (by decide)]
    exact pp_m (y_bad (show ¬ (sA x 64 kn (x.2.2.1 64 kn + sz)).1 69 = 0 from hj) hr (by decide) (by decide) (fun _ _ => by repeat' (first | exact KP_some kp_rf | with_reducible refine KP_bn ?_ (fun _ _ => ?_) | with_reducible refine KP_if ?_ ?_ | with_reducible refine KP_rd (fun _ => ?_) | with_reducible refine KP_zr ?_ | (with_reducible refine KP_pu2 ?_ ?_; first | exact ks_sI (by decide) kp_rf | exact ks_sL kp_rf | exact ks_sA (by decide) kp_rf | exact ks_sB (by decide) kp_rf) | (with_reducible refine KP_wr2 ?_ ?_; first | exact ks_sA (by decide) kp_rf | exact ks_sB (by decide) kp_rf) | with_reducible exact h_ro _ _ _ _ | with_reducible exact sk_F_is | with_reducible exact sk_F_take | with_reducible exact sk_F_emit | with_reducible exact sk_F_wrong | with_reducible exact sk_F_cost | with_reducible exact sk_F_stuck | with_reducible exact sk_F_ends | with_reducible exact sk_F_begins | with_reducible exact sk_F_opens | with_reducible exact sk_F_has | with_reducible exact sk_F_isNumber | with_reducible exact sk_F_isNext | with_reducible exact sk_F_push | with_reducible exact sk_F_lead | with_reducible exact sk_F_here | with_reducible exact sk_F_kind | with_reducible exact sk_F_isKind | with_reducible exact sk_F_own | with_reducible exact sk_F_constant | with_reducible exact sk_F_bounded | with_reducible exact sk_F_joined | with_reducible exact sk_F_strength | with_reducible exact sk_F_leadAll | with_reducible exact sk_F_loop | with_reducible exact sk_F_label | with_reducible exact sk_F_leaves | with_reducible exact sk_F_telling | with_reducible exact sk_F_local | with_reducible exact sk_F_addSlot | with_reducible exact sk_F_addVariable | with_reducible exact sk_F_isTooWide | with_reducible exact sk_F_named | with_reducible exact sk_F_slotOf | with_reducible exact sk_F_bad | with_reducible exact sk_G_expression | with_reducible exact sk_G_spot | with_reducible exact sk_G_body | with_reducible exact sk_G_stat | with_reducible exact sk_B_addVariable_219 | with_reducible exact sk_B_addVariable_202 | with_reducible exact sk_B_addVariable_51 | with_reducible exact sk_B_addVariable_41 | with_reducible exact sk_B_addVariable_0 | with_reducible exact sk_F_addVariable))) (fun r z q => kb y r z q.1 q.2)
/-- the class and the reference put a variable: var, keep -/
theorem j_putV {A : Int32 → CSt → Int32 → RSt → Prop} (hj : ¬ x.1 69 = 0) (h' : RE x x j o l c) (hkn : kd.toInt = (kn : Int)) (hso : ¬ (2 : Int32) ≤ so) (hn : l4.toNatClampNeg = nm) (hp : p = x.2.2.1 3 nm) (h64 : cA w 228 kn = x.2.2.1 64 kn) (hsz : mI w m 7 = sz)
    (kk : ∀ x', cA w 228 kn + sz ≤ 400 → AVr (sA x 64 kn (x.2.2.1 64 kn + sz)) x' nm kd so sz rw (-1) (x.1 63) fs → A 0 (xI (xA (xmI w m 9 (cI w 12)) 228 kn (cA w 228 kn + sz)) 12 (cI w 12 + sz)) 0 x') : jx (B_X3_oneVariable_112 N 0 kd p m w) (B_one_150 N kd so 0 l4 sz rw fs x) A := by
  unfold B_X3_oneVariable_112 B_one_150
  rw [if_pos rfl, if_pos rfl]
  refine pq_pc ?_
  have e7 : mI (xmI w m 9 (cI w 12)) m 7 = sz := by rw [mI_ne (Or.inr (by decide))]; exact hsz
  rw [e7]
  refine j_allot hkn (fun hc => ?_) (fun hc => ?_)
  · have hc' : cA w 228 kn + sz ≤ 400 := hc
    refine jx_r (pp_bn (y_addV h' hj hkn hso hn (fun hc2 y hy => ?_) (fun hc2 r y _ _ => ?_)))
    · exact pp_some (pq_some (Or.inr ⟨0, rfl, kk y hc' hy⟩))
    · rw [h64] at hc'
      exact absurd hc' hc2
  · have hc' : ¬ cA w 228 kn + sz ≤ 400 := hc
    refine pp_bn (y_addV h' hj hkn hso hn (fun hc2 y hy => ?_) (fun hc2 r y a1 a2 => pp_some ⟨a1, ?_⟩))
    · rw [h64] at hc'
      exact absurd hc2 hc'
    · rw [hp]
      exact a2
end Vr
