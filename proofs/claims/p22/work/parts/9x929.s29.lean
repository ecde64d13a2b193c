/-! The second pass: places, bits, [ E ]. -/
section Plc2
variable {v0 v : CSt} {u0 u : RSt} {i j o l n N : Nat} {e : E5} {c : R5} {β γ : Type} {A : β → CSt → γ → RSt → Prop}
/-- a NUMBER within bounds -/
theorem j_bounded {a b : Int64} {l1 l2 : Int32} {k : Int64 → CSt → Option (Sum Nat β × CSt)} {k' : Int32 → RSt → Option (γ × RSt)} (hV : EV2 v0 u0 n) (h : CE v0 v i l e) (h' : RE u0 u i o l c) (hi : i < n) (ht : tyF v0 i = 129) (ha : a = l1.toInt64) (hb : b = l2.toInt64) (kk : ∀ x w z, ¬ x < a → x ≤ b → CE v0 w (i + 1) l e → RE u0 z (i + 1) o l c → jx (k x w) (k' x.toInt32 z) A) (hs : ∀ r z, KP (k' r z) z) : jx (bt (F_X9_takeBounded N a b v) k) (bn (F_bounded N l1 l2 u) k') A := by
  obtain ⟨hp, hk⟩ := hV.2.2.1 i hi
  obtain ⟨hsr, hn, -⟩ := hk
  obtain ⟨a1, a2, a3⟩ := hn ht
  have hn2 := hV.2.1.2.2
  have e23 : u0.2.2.1 2 i = 2 ∨ u0.2.2.1 2 i = 3 := ((show ∀ p ∈ prs, (p.1 = 129 → p.2 = 2 ∨ p.2 = 3) by decide +kernel) (tyF v0 i, u0.2.2.1 2 i) hsr) ht
  have s3 : u0.2.2.1 2 i = 3 ↔ ¬ cA v0 206 i &&& 2 = 0 := by
    constructor
    · intro q r
      have := a1.mp r
      rw [q] at this
      exact absurd this (by decide)
    · intro q
      rcases e23 with r | r
      · exact absurd (a1.mpr r) q
      · exact r
  have bad : pp (B_bounded_52 N u) (fun r w => pp (k' r w) (fun _ x => ¬ x.1 67 = 0 ∧ x.1 68 = cA v0 204 i)) := by
    unfold B_bounded_52 B_bounded_57
    refine y_rA h' (by decide) ?_
    rw [← hp]
    intro r x q
    obtain ⟨r1, x1, q1, q2⟩ := bn_of q
    have hb1 := y_bad (N := N) (x := 1) (a := 5) (p := cA v0 204 i) (k := fun _ z => some ((0 : Int32), z)) hV.2.2.2.2.1 h' (by decide) (by decide) (fun _ _ => KP_some kp_rf) 0 x1 (by rw [q1]; rfl)
    have hk2 : KP (pu (sI x1 65 (x1.1 65 + 1)) fun u_4 => rd (u_4.2.2.2 4) 1502 (u_4.1 65 - 1) fun v_5 => some (v_5.toInt32, u_4)) x1 := by repeat' (first | exact KP_some kp_rf | with_reducible refine KP_bn ?_ (fun _ _ => ?_) | with_reducible refine KP_if ?_ ?_ | with_reducible refine KP_rd (fun _ => ?_) | with_reducible refine KP_zr ?_ | (with_reducible refine KP_pu2 ?_ ?_; first | exact ks_sI (by decide) kp_rf | exact ks_sL kp_rf | exact ks_sA (by decide) kp_rf | exact ks_sB (by decide) kp_rf) | (with_reducible refine KP_wr2 ?_ ?_; first | exact ks_sA (by decide) kp_rf | exact ks_sB (by decide) kp_rf) | with_reducible exact h_ro _ _ _ _ | with_reducible exact sk_F_is | with_reducible exact sk_F_take | with_reducible exact sk_F_emit | with_reducible exact sk_F_wrong | with_reducible exact sk_F_cost | with_reducible exact sk_F_stuck | with_reducible exact sk_F_ends | with_reducible exact sk_F_begins | with_reducible exact sk_F_opens | with_reducible exact sk_F_has | with_reducible exact sk_F_isNumber | with_reducible exact sk_F_isNext | with_reducible exact sk_F_push | with_reducible exact sk_F_lead | with_reducible exact sk_F_here | with_reducible exact sk_F_kind | with_reducible exact sk_F_isKind | with_reducible exact sk_F_own | with_reducible exact sk_F_constant | with_reducible exact sk_F_bounded | with_reducible exact sk_F_joined | with_reducible exact sk_F_strength | with_reducible exact sk_F_leadAll | with_reducible exact sk_F_loop | with_reducible exact sk_F_label | with_reducible exact sk_F_leaves | with_reducible exact sk_F_telling | with_reducible exact sk_F_local | with_reducible exact sk_F_addSlot | with_reducible exact sk_F_addVariable | with_reducible exact sk_F_isTooWide | with_reducible exact sk_F_named | with_reducible exact sk_F_slotOf | with_reducible exact sk_F_bad | with_reducible exact sk_G_expression | with_reducible exact sk_G_spot | with_reducible exact sk_G_body | with_reducible exact sk_G_stat)
    obtain ⟨c1, c2⟩ := (hk2 r x q2).2.2.2 hb1.1
    exact pp_flt (hs r x) (by rw [c1]; exact hb1.1) (by rw [c2]; exact hb1.2)
  refine j_takeBounded hV h hi (fun z w hw => jx_r ?_) (fun z => ?_)
  · obtain ⟨z1, z2, z3⟩ := z
    have n3 : ¬ u0.2.2.1 2 i = 3 := fun q => (s3.mp q) z1
    have vl : cB v0 205 i = u0.2.2.2 4 i := (a3 (a1.mp z1)).1
    refine pp_bn ?_
    unfold F_bounded B_bounded_0
    refine y_isNumber hV.2.1 h' (Nat.le_of_lt hi) (fun _ => ?_) (fun q => absurd ht q)
    rw [if_neg (by decide)]
    refine y_is0 h' (fun q => absurd q n3) (fun _ => ?_)
    rw [if_pos rfl]
    refine y_rB h' (by decide) ?_
    rw [← vl, ← ha, ← hb, if_neg z2]
    refine y_rB h' (by decide) ?_
    rw [← vl, if_pos z3]
    unfold B_bounded_57
    refine y_rA h' (by decide) (y_ok rfl (y_adv h' (by omega) (fun w5 h5 => ?_)))
    have e6 : (w5.1 65 - 1).toNatClampNeg = i := by
      have := h5.2.2.1
      have e1 : (1 : Int32).toInt = 1 := by decide
      show (w5.1 65 - 1).toInt.toNat = i
      rw [tI_sub (by omega) (by omega), e1, this]
      omega
    refine pp_rd ?_
    rw [h5.lrow (by decide), e6, ← vl]
    exact pp_some (jx_l (kk _ w w5 z2 z3 hw h5))
  · refine pp_bn ?_
    unfold F_bounded B_bounded_0
    refine y_isNumber hV.2.1 h' (Nat.le_of_lt hi) (fun _ => ?_) (fun q => absurd ht q)
    rw [if_neg (by decide)]
    refine y_is0 h' (fun q => ?_) (fun q => ?_)
    · rw [if_neg (by decide)]
      exact bad
    · rw [if_pos rfl]
      have z1 : cA v0 206 i &&& 2 = 0 := Classical.not_not.mp (fun r => q (s3.mpr r))
      have vl : cB v0 205 i = u0.2.2.2 4 i := (a3 (a1.mp z1)).1
      refine y_rB h' (by decide) (pp_if (fun _ => bad) (fun y1 => y_rB h' (by decide) (pp_if (fun y2 => ?_) (fun _ => bad))))
      rw [← vl, ← ha] at y1
      rw [← vl, ← hb] at y2
      exact absurd ⟨z1, y1, y2⟩ z
/-- [ E ] -/
theorem j_index {X : Rl} {b : Prop} {d d' : Nat} {l1 l2 : Int32} (hV : EV2 v0 u0 n) (ho : b → o < 24) (hX : o < 24 → ∀ d d' i j v u e c, X i (.inr j) → i ≤ n → CE v0 v i l e → RE u0 u i (o + 1) l c → 0 ≤ e.1.toInt → e.1.toInt ≤ 10 * (o + 1) → jx (FTE_ N d 0 0 0 0 v) (FE_ N d' 0 0 0 u) (fun b w r x => EPq v0 u0 j (o + 1) l e b w r x ∧ j ≤ n)) (hD : oS (oP (tyF v0) b 91) (oS X (oT (tyF v0) 93)) i (.inr j)) (h : CE v0 v i l e) (h' : RE u0 u i o l c) (hi : i ≤ n) (h0 : 0 ≤ e.1.toInt) (h1 : e.1.toInt ≤ 10 * o + 10) : jx (F_X8_indexNumber N (FTE_ N d) v) (F_index N (FE_ N d') l1 l2 u) (fun _ w _ x => ∃ e' c', CE v0 w j l e' ∧ RE u0 x j o l c' ∧ sfe e e' ∧ j ≤ n) := by
  have hn2 := hV.2.1.2.2
  obtain ⟨k1, p1, p2⟩ := oS_r hD
  obtain ⟨t1, pb, rfl⟩ := oP_r p1
  obtain ⟨k2, p3, p4⟩ := oS_r p2
  obtain ⟨t2, rfl⟩ := oT_r p4
  have hil := hV.lt hi (by rw [t1]; exact nEnd (by decide) (by decide) (by decide))
  have h_ro : ∀ q a b u, KP (FE_ N d' q a b u) u := sk_FE_ d'
  unfold F_X8_indexNumber B_X8_indexNumber_0
  refine k2_next hV.1 h hil (fun w1 g1 => k2_here g1 (jx_r ?_))
  unfold F_index B_index_0
  refine y_begins hV.2.1 (t := 91) (by decide +kernel) h' hil t1 (ho pb) (fun x1 r1 => y_rA r1 (by decide) (jx_l ?_))
  refine jx_bt (hX (ho pb) d d' (i + 1) k2 w1 x1 e c p3 hil g1 r1 h0 (by omega)) ?_ (fun _ _ => by repeat' (first | exact KP_some kp_rf | with_reducible refine KP_bn ?_ (fun _ _ => ?_) | with_reducible refine KP_if ?_ ?_ | with_reducible refine KP_rd (fun _ => ?_) | with_reducible refine KP_zr ?_ | (with_reducible refine KP_pu2 ?_ ?_; first | exact ks_sI (by decide) kp_rf | exact ks_sL kp_rf | exact ks_sA (by decide) kp_rf | exact ks_sB (by decide) kp_rf) | (with_reducible refine KP_wr2 ?_ ?_; first | exact ks_sA (by decide) kp_rf | exact ks_sB (by decide) kp_rf) | with_reducible exact h_ro _ _ _ _ | with_reducible exact sk_F_is | with_reducible exact sk_F_take | with_reducible exact sk_F_emit | with_reducible exact sk_F_wrong | with_reducible exact sk_F_cost | with_reducible exact sk_F_stuck | with_reducible exact sk_F_ends | with_reducible exact sk_F_begins | with_reducible exact sk_F_opens | with_reducible exact sk_F_has | with_reducible exact sk_F_isNumber | with_reducible exact sk_F_isNext | with_reducible exact sk_F_push | with_reducible exact sk_F_lead | with_reducible exact sk_F_here | with_reducible exact sk_F_kind | with_reducible exact sk_F_isKind | with_reducible exact sk_F_own | with_reducible exact sk_F_constant | with_reducible exact sk_F_bounded | with_reducible exact sk_F_joined | with_reducible exact sk_F_strength | with_reducible exact sk_F_leadAll | with_reducible exact sk_F_loop | with_reducible exact sk_F_label | with_reducible exact sk_F_leaves | with_reducible exact sk_F_telling | with_reducible exact sk_F_local | with_reducible exact sk_F_addSlot | with_reducible exact sk_F_addVariable | with_reducible exact sk_F_isTooWide | with_reducible exact sk_F_named | with_reducible exact sk_F_slotOf | with_reducible exact sk_F_bad | with_reducible exact sk_G_expression | with_reducible exact sk_G_spot | with_reducible exact sk_G_body | with_reducible exact sk_G_stat | (with_reducible refine sk_B_index_35 ?_ <;> assumption) | (with_reducible refine sk_B_index_0 ?_ <;> assumption) | (with_reducible refine sk_F_index ?_ <;> assumption)))
  rintro b2 w2 r2 x2 ⟨⟨rfl, kd, e2, c2, g2, r2, s2, -⟩, hk2⟩
  have hkl := hV.lt hk2 (by rw [t2]; exact nEnd (by decide) (by decide) (by decide))
  by_cases q : b2 = 4
  · rw [if_pos q, if_pos q, hV.pl hil]
    refine jx_ref ?_
    unfold B_index_35
    exact y_bad hV.2.2.2.2.1 r2 (by decide) (by decide) (fun _ _ => by repeat' (first | exact KP_some kp_rf | with_reducible refine KP_bn ?_ (fun _ _ => ?_) | with_reducible refine KP_if ?_ ?_ | with_reducible refine KP_rd (fun _ => ?_) | with_reducible refine KP_zr ?_ | (with_reducible refine KP_pu2 ?_ ?_; first | exact ks_sI (by decide) kp_rf | exact ks_sL kp_rf | exact ks_sA (by decide) kp_rf | exact ks_sB (by decide) kp_rf) | (with_reducible refine KP_wr2 ?_ ?_; first | exact ks_sA (by decide) kp_rf | exact ks_sB (by decide) kp_rf) | with_reducible exact h_ro _ _ _ _ | with_reducible exact sk_F_is | with_reducible exact sk_F_take | with_reducible exact sk_F_emit | with_reducible exact sk_F_wrong | with_reducible exact sk_F_cost | with_reducible exact sk_F_stuck | with_reducible exact sk_F_ends | with_reducible exact sk_F_begins | with_reducible exact sk_F_opens | with_reducible exact sk_F_has | with_reducible exact sk_F_isNumber | with_reducible exact sk_F_isNext | with_reducible exact sk_F_push | with_reducible exact sk_F_lead | with_reducible exact sk_F_here | with_reducible exact sk_F_kind | with_reducible exact sk_F_isKind | with_reducible exact sk_F_own | with_reducible exact sk_F_constant | with_reducible exact sk_F_bounded | with_reducible exact sk_F_joined | with_reducible exact sk_F_strength | with_reducible exact sk_F_leadAll | with_reducible exact sk_F_loop | with_reducible exact sk_F_label | with_reducible exact sk_F_leaves | with_reducible exact sk_F_telling | with_reducible exact sk_F_local | with_reducible exact sk_F_addSlot | with_reducible exact sk_F_addVariable | with_reducible exact sk_F_isTooWide | with_reducible exact sk_F_named | with_reducible exact sk_F_slotOf | with_reducible exact sk_F_bad | with_reducible exact sk_G_expression | with_reducible exact sk_G_spot | with_reducible exact sk_G_body | with_reducible exact sk_G_stat | (with_reducible refine sk_B_index_35 ?_ <;> assumption) | (with_reducible refine sk_B_index_0 ?_ <;> assumption) | (with_reducible refine sk_F_index ?_ <;> assumption)))
  · rw [if_neg q, if_neg q]
    unfold B_X8_indexNumber_32 B_index_35
    refine k2_next hV.1 g2 hkl (fun w3 g3 => pq_some ?_)
    refine y_ok rfl (y_emit r2 (fun _ x3 r3 => y_ends hV.2.1 (t := 93) (by decide +kernel) r3 hkl t2 (by have := ho pb; omega) (fun x4 r4 => pp_some (Or.inr ⟨0, rfl, e2, c2, g3, r4, s2, hkl⟩))))
/-- the class's name m tells of a variable, parameter or local, and the reference found the same -/
theorem k2_known {α : Type} {Q : α → CSt → Prop} {m : Nat} {s : Int32} {g : Int32 → Int32} {k : Nat → CSt → Option (α × CSt)} (hK : KN1 v0 u0 i m s g) (h : CE v0 v i l e) (kk : pq (k m v) Q) : pq (bc (F_X8_known N v) k) Q := by
  refine pq_bc (pq_m (hK.1 N v l e h) (fun r w hw => ?_))
  rw [hw.1, hw.2]
  exact kk
theorem y_slotOf {α : Type} {Q : α → RSt → Prop} {m : Nat} {s : Int32} {g : Int32 → Int32} {k : Int32 → RSt → Option (α × RSt)} (hK : KN1 v0 u0 i m s g) (h' : RE u0 u i o l c) (kk : pp (k s u) Q) : pp (bn (F_slotOf N (u0.2.2.2 6 i) (u0.2.2.2 7 i) u) k) Q := by
  refine pp_bn (pp_m (hK.2.1 N u o l c h') (fun r w hw => ?_))
  rw [hw.1, hw.2]
  exact kk
theorem y_own {α : Type} {Q : α → RSt → Prop} {m : Nat} {s a : Int32} {g : Int32 → Int32} {k : Int32 → RSt → Option (α × RSt)} (hK : KN1 v0 u0 i m s g) (h' : RE u0 u i o l c) (kk : pp (k (g a) u) Q) : pp (bn (F_own N a u) k) Q := by
  refine pp_bn (pp_m (hK.2.2 N u o l c a h') (fun r w hw => ?_))
  rw [hw.1, hw.2]
  exact kk
theorem k2_isInput {α : Type} {Q : α → CSt → Prop} {m : Nat} {k : Int32 → CSt → Option (α × CSt)} (h : CE v0 v i l e) (kk : pq (k (if mI v0 m 2 = 0 ∧ mI v0 m 6 = 2 then 1 else 0) v) Q) : pq (bc (F_X4_isInput N m v) k) Q := by
  refine pq_bc ?_
  unfold F_X4_isInput B_X4_isInput_0
  rw [h.nm m 2, h.nm m 6]
  refine pq_if (fun q => pq_if (fun q2 => pq_some ?_) (fun q2 => pq_some ?_)) (fun q => pq_some ?_)
  · rw [if_pos ⟨q, q2⟩] at kk; exact kk
  · rw [if_neg (fun z => q2 z.2)] at kk; exact kk
  · rw [if_neg (fun z => q z.1)] at kk; exact kk
theorem k2_hasNumbers {α : Type} {Q : α → CSt → Prop} {m : Nat} {k : Int32 → CSt → Option (α × CSt)} (h : CE v0 v i l e) (kk : pq (k (if mI v0 m 2 = 0 ∨ mI v0 m 2 = 5 ∨ mI v0 m 2 = 6 then 1 else 0) v) Q) : pq (bc (F_X4_hasNumbers N m v) k) Q := by
  refine pq_bc ?_
  unfold F_X4_hasNumbers B_X4_hasNumbers_0 B_X4_hasNumbers_14
  rw [h.nm m 2]
  refine pq_if (fun q => pq_some ?_) (fun q => pq_bc ?_)
  · rw [if_pos (Or.inl q)] at kk; exact kk
  unfold F_X4_isLocal B_X4_isLocal_0 B_X4_isLocal_17
  rw [h.nm m 2]
  refine pq_if (fun q2 => pq_some ?_) (fun q2 => pq_if (fun q3 => pq_some ?_) (fun q3 => pq_some ?_))
  · rw [if_pos (Or.inr (Or.inl q2))] at kk
    rw [if_neg (by decide)]
    exact pq_some kk
  · rw [if_pos (Or.inr (Or.inr q3))] at kk
    rw [if_neg (by decide)]
    exact pq_some kk
  · rw [if_neg (fun z => z.elim q (fun z => z.elim q2 q3))] at kk
    rw [if_pos rfl]
    exact pq_some kk
theorem k2_isLocal {α : Type} {Q : α → CSt → Prop} {m : Nat} {k : Int32 → CSt → Option (α × CSt)} (kk : ∀ r, pq (k r v) Q) : pq (bc (F_X4_isLocal N m v) k) Q := by
  refine pq_bc ?_
  unfold F_X4_isLocal B_X4_isLocal_0 B_X4_isLocal_17
  exact pq_if (fun _ => pq_some (kk _)) (fun _ => pq_if (fun _ => pq_some (kk _)) (fun _ => pq_some (kk _)))
theorem k2_isPlaced {α : Type} {Q : α → CSt → Prop} {m : Nat} {k : Int32 → CSt → Option (α × CSt)} (kk : ∀ r, pq (k r v) Q) : pq (bc (F_X4_isPlaced N m v) k) Q := by
  refine pq_bc ?_
  unfold F_X4_isPlaced B_X4_isPlaced_0 B_X4_isPlaced_23
  exact pq_if (fun _ => pq_if (fun _ => pq_some (kk _)) (fun _ => pq_if (fun _ => pq_some (kk _)) (fun _ => pq_some (kk _)))) (fun _ => pq_some (kk _))
theorem k2_get {α : Type} {Q : α → CSt → Prop} {m : Nat} {a p : Int32} {k : Int32 → CSt → Option (α × CSt)} (h : CE v0 v i l e) (kk : ∀ w, CE v0 w i l e → pq (k 0 w) Q) : pq (bc (F_X8_get N m a p v) k) Q := by
  refine pq_bc ?_
  have h36 : ∀ s : Int32, pq (B_X8_get_36 N m a p s v) (fun r w => pq (k r w) Q) := by
    intro s
    unfold B_X8_get_36
    exact pq_ok (fun _ => k2_step h (fun _ w hw => pq_some (kk w hw)))
  have h12 : ∀ s : Int32, pq (B_X8_get_12 N m a p s v) (fun r w => pq (k r w) Q) := by
    intro s
    unfold B_X8_get_12 B_X8_get_34
    exact k2_isPlaced (fun r => pq_if (fun _ => h36 _) (fun _ => k2_isInput h (pq_if (fun _ => h36 _) (fun _ => h36 _))))
  unfold F_X8_get B_X8_get_0
  exact k2_isLocal (fun r => pq_if (fun _ => h12 _) (fun _ => h12 _))
theorem k2_set {α : Type} {Q : α → CSt → Prop} {m : Nat} {p : Int32} {k : Int32 → CSt → Option (α × CSt)} (h : CE v0 v i l e) (kk : ∀ w, CE v0 w i l e → pq (k 0 w) Q) : pq (bc (F_X8_set N m p v) k) Q := by
  refine pq_bc ?_
  have h26 : ∀ s : Int32, pq (B_X8_set_26 N m p s v) (fun r w => pq (k r w) Q) := by
    intro s
    unfold B_X8_set_26
    exact pq_ok (fun _ => k2_step h (fun _ w hw => pq_some (kk w hw)))
  unfold F_X8_set B_X8_set_0
  exact k2_isLocal (fun r => pq_if (fun _ => k2_isPlaced (fun r => pq_if (fun _ => h26 _) (fun _ => h26 _))) (fun _ => h26 _))
/-- the bit's number behind a Place -/
theorem j_bit {kd : Int32} {k : Int32 → CSt → Option (Sum Nat β × CSt)} {k' : Int32 → RSt → Option (γ × RSt)} (hV : EV2 v0 u0 n) (hk : KD kd) (h : CE v0 v i l e) (h' : RE u0 u (i + 1) o l c) (hi : i < n) (hi1 : i + 1 < n) (ht : tyF v0 (i + 1) = 129) (kk : ∀ x w z, ¬ x = -1 → CE v0 w (i + 2) l e → RE u0 z (i + 2) o l c → jx (k x w) (k' x z) A) (hs : ∀ r z, KP (k' r z) z) : jx (bt (F_X8_bit N kd v) k) (bn (F_bounded N 0 (r_bits kd - 1) u) k') A := by
  have eb : bt_0.getD kd.toNatClampNeg 0 = r_bits kd ∧ (0 : Int64) = (0 : Int32).toInt64 ∧ (r_bits kd - 1).toInt64.toInt < 64 := by
    rcases hk with rfl | rfl | rfl | rfl | rfl <;> decide
  unfold F_X8_bit B_X8_bit_0
  refine pq_bt ?_
  refine k2_next hV.1 h hi (fun w1 g1 => pq_rd ?_)
  rw [eb.1]
  have main := j_bounded (N := N) (A := A) (k := fun r_5 u_4 => k r_5.toInt32 u_4) (k' := k') hV g1 h' hi1 ht eb.2.1 (rfl : (r_bits kd - 1).toInt64 = (r_bits kd - 1).toInt64) (fun x w z b1 b2 hw hz => kk x.toInt32 w z ?_ hw hz) hs
  · intro y w q
    obtain ⟨y1, w1', q1, q2⟩ := bt_of q
    rcases q2 with ⟨x, a1, a2, a3⟩ | ⟨r, a1, a2⟩
    · refine ⟨fun e he => ?_, fun b hb => ?_⟩
      · rw [a2] at he
        cases he
        refine main _ _ ?_
        rw [q1, a1, a3]
        rfl
      · rw [a2] at hb
        cases hb
    · cases a2
      refine ⟨(fun e he => nomatch he), fun b hb => ?_⟩
      cases hb
      intro y2 w2 q3
      refine main y2 w2 ?_
      rw [q1, a1]
      exact q3
  · intro q
    have z0 : (0 : Int64).toInt = 0 := by decide
    have c1 : 0 ≤ x.toInt := by
      have := Int64.le_iff_toInt_le.mp (Int64.not_lt.mp b1)
      rw [z0] at this
      exact this
    have c2 := Int64.le_iff_toInt_le.mp b2
    have c3 := eb.2.2
    have : x.toInt32.toInt = x.toInt := by
      rw [Int64.toInt_toInt32, Int.bmod_eq_of_le_mul_two (by omega) (by omega)]
    rw [q] at this
    have m1 : (-1 : Int32).toInt = -1 := by decide
    omega
end Plc2
