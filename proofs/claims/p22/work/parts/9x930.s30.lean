/-! The second pass: the variable, parameter or local of a Place. -/
theorem pp_nb {α β : Type} {Y : Option (α × RSt)} {k : α → RSt → Option (β × RSt)} {Q : β → RSt → Prop} (h : pp (bn Y k) Q) : pp Y (fun r w => pp (k r w) Q) := by
  intro r w e r' w' e'
  refine h r' w' ?_
  rw [e]
  exact e'
theorem bn_id {α : Type} (x : Option (α × RSt)) : bn x (fun r w => some (r, w)) = x := by
  cases x <;> rfl
section Spt2
variable {v0 v : CSt} {u0 u : RSt} {i j o l n N : Nat} {e : E5} {c : R5} {a s : Int32} {g : Int32 → Int32} {ro : Nat → Int32 → Int32 → RSt → Option (Int32 × RSt)}
def spR (u0 : RSt) (s x : Int32) : Int32 := if s = -1 then u0.2.2.1 13 x.toNatClampNeg else u0.2.2.1 22 s.toNatClampNeg
def spK (u0 : RSt) (s x : Int32) : Int32 := if s = -1 then u0.2.2.1 10 x.toNatClampNeg else u0.2.2.1 20 s.toNatClampNeg
/-- the reference's spot, up to the token behind the NAME -/
theorem y_spot {m : Nat} {Q : Int32 → RSt → Prop} {f : Int32} (hV : EV2 v0 u0 n) (hK : KN1 v0 u0 i m s g) (h' : RE u0 u i o l c) (hi : i < n) (ht : tyF v0 i = 128) (h_ro : ∀ q a b u, KP (ro q a b u) u) (hf : f = (if tyF v0 (i + 1) = 91 then 1 else 0)) (hs : ¬ (s = -1 ∧ g 0 = -1))
    (kb : (¬ spR u0 s (160 * u0.1 56 + g 0) = f ∨ (¬ a = 0 ∧ s = -1 ∧ u0.2.2.1 12 (160 * u0.1 56 + g 0).toNatClampNeg = 2)) → ∀ r x, ¬ x.1 67 = 0 → x.1 68 = u0.2.2.1 3 i → Q r x)
    (kk : ¬ (¬ spR u0 s (160 * u0.1 56 + g 0) = f ∨ (¬ a = 0 ∧ s = -1 ∧ u0.2.2.1 12 (160 * u0.1 56 + g 0).toNatClampNeg = 2)) → ∀ l6 l8 x, RE u0 x i o l c → pp (B_spot_283 N ro (u0.2.2.1 3 i) s 1 l6 (spK u0 s (160 * u0.1 56 + g 0)) l8 f x) Q) : pp (F_spot N ro a u) Q := by
  have hj := hV.2.2.2.2.1
  have h69 : ∀ {x : RSt}, RE u0 x i o l c → ¬ x.1 69 = 0 := fun hx => by rw [hx.sc (by decide)]; exact hj
  have hne : ¬ isEnd (tyF v0 i) := by rw [ht]; exact nEnd (by decide) (by decide) (by decide)
  have flt : ∀ {Y : Option (Int32 × RSt)}, pp Y (fun _ x => ¬ x.1 67 = 0 ∧ x.1 68 = u0.2.2.1 3 i) → (¬ spR u0 s (160 * u0.1 56 + g 0) = f ∨ (¬ a = 0 ∧ s = -1 ∧ u0.2.2.1 12 (160 * u0.1 56 + g 0).toNatClampNeg = 2)) → pp Y Q := fun hY hb => pp_m hY (fun r x q => kb hb r x q.1 q.2)
  have h269 : ¬ (¬ spR u0 s (160 * u0.1 56 + g 0) = f ∨ (¬ a = 0 ∧ s = -1 ∧ u0.2.2.1 12 (160 * u0.1 56 + g 0).toNatClampNeg = 2)) → ∀ l6 l8 x, RE u0 x i o l c → pp (B_spot_268 N ro a (u0.2.2.1 3 i) s 1 l6 (spK u0 s (160 * u0.1 56 + g 0)) l8 f x) Q := by
    intro nb l6 l8 x hx
    unfold B_spot_268 B_spot_269
    refine y_ok rfl (pp_if (fun _ => y_cost hx (fun w hw => kk nb _ _ w hw)) (fun _ => kk nb _ _ x hx))
  have h223 : ∀ l4 l8 x, RE u0 x i o l c → (s = -1 → l4 = g 0) → pp (B_spot_223 N ro a (u0.2.2.1 3 i) s 1 (160 * x.1 56 + l4) (spK u0 s (160 * u0.1 56 + g 0)) l8 f (spR u0 s (160 * u0.1 56 + g 0)) x) Q := by
    intro l4 l8 x hx h4
    have e56 : x.1 56 = u0.1 56 := hx.sc (by decide)
    unfold B_spot_223 B_spot_232
    refine pp_if (fun z => ?_) (fun z => ?_)
    · unfold B_spot_233
      refine y_ok rfl ?_
      rw [if_neg (by decide)]
      refine pp_if (fun z2 => h269 (fun q => q.elim (fun q => q z) (fun q => q.1 z2)) _ _ x hx) (fun z2 => pp_if (fun z3 => ?_) (fun z3 => h269 (fun q => q.elim (fun q => q z) (fun q => z3 q.2.1)) _ _ x hx))
      refine pp_rd ?_
      rw [hx.row (by decide), e56, h4 z3]
      refine pp_if (fun z4 => ?_) (fun z4 => h269 (fun q => q.elim (fun q => q z) (fun q => z4 q.2.2)) _ _ x hx)
      refine flt ?_ (Or.inr ⟨z2, z3, z4⟩)
      unfold B_spot_269
      exact y_bad hj hx (by decide) (by decide) (fun _ _ => by repeat' (first | exact KP_some kp_rf | with_reducible refine KP_bn ?_ (fun _ _ => ?_) | with_reducible refine KP_if ?_ ?_ | with_reducible refine KP_rd (fun _ => ?_) | with_reducible refine KP_zr ?_ | (with_reducible refine KP_pu2 ?_ ?_; first | exact ks_sI (by decide) kp_rf | exact ks_sL kp_rf | exact ks_sA (by decide) kp_rf | exact ks_sB (by decide) kp_rf) | (with_reducible refine KP_wr2 ?_ ?_; first | exact ks_sA (by decide) kp_rf | exact ks_sB (by decide) kp_rf) | with_reducible exact h_ro _ _ _ _ | with_reducible exact sk_F_is | with_reducible exact sk_F_take | with_reducible exact sk_F_emit | with_reducible exact sk_F_wrong | with_reducible exact sk_F_cost | with_reducible exact sk_F_stuck | with_reducible exact sk_F_ends | with_reducible exact sk_F_begins | with_reducible exact sk_F_opens | with_reducible exact sk_F_has | with_reducible exact sk_F_isNumber | with_reducible exact sk_F_isNext | with_reducible exact sk_F_push | with_reducible exact sk_F_lead | with_reducible exact sk_F_here | with_reducible exact sk_F_kind | with_reducible exact sk_F_isKind | with_reducible exact sk_F_own | with_reducible exact sk_F_constant | with_reducible exact sk_F_bounded | with_reducible exact sk_F_joined | with_reducible exact sk_F_strength | with_reducible exact sk_F_leadAll | with_reducible exact sk_F_loop | with_reducible exact sk_F_label | with_reducible exact sk_F_leaves | with_reducible exact sk_F_telling | with_reducible exact sk_F_local | with_reducible exact sk_F_addSlot | with_reducible exact sk_F_addVariable | with_reducible exact sk_F_isTooWide | with_reducible exact sk_F_named | with_reducible exact sk_F_slotOf | with_reducible exact sk_F_bad | with_reducible exact sk_G_expression | with_reducible exact sk_G_spot | with_reducible exact sk_G_body | with_reducible exact sk_G_stat | (with_reducible refine sk_B_spot_409 ?_ <;> assumption) | (with_reducible refine sk_B_spot_382 ?_ <;> assumption) | (with_reducible refine sk_B_spot_361 ?_ <;> assumption) | (with_reducible refine sk_B_spot_331 ?_ <;> assumption) | (with_reducible refine sk_B_spot_305 ?_ <;> assumption) | (with_reducible refine sk_B_spot_283 ?_ <;> assumption) | (with_reducible refine sk_B_spot_269 ?_ <;> assumption) | (with_reducible refine sk_B_spot_268 ?_ <;> assumption) | (with_reducible refine sk_B_spot_233 ?_ <;> assumption) | (with_reducible refine sk_B_spot_232 ?_ <;> assumption) | (with_reducible refine sk_B_spot_223 ?_ <;> assumption) | (with_reducible refine sk_B_spot_185 ?_ <;> assumption) | (with_reducible refine sk_B_spot_153 ?_ <;> assumption) | (with_reducible refine sk_B_spot_108 ?_ <;> assumption) | (with_reducible refine sk_B_spot_107 ?_ <;> assumption) | (with_reducible refine sk_B_spot_84 ?_ <;> assumption) | (with_reducible refine sk_B_spot_83 ?_ <;> assumption) | (with_reducible refine sk_B_spot_65 ?_ <;> assumption) | (with_reducible refine sk_B_spot_64 ?_ <;> assumption) | (with_reducible refine sk_B_spot_43 ?_ <;> assumption) | (with_reducible refine sk_B_spot_0 ?_ <;> assumption) | (with_reducible refine sk_F_spot ?_ <;> assumption) | with_reducible exact sk_G_spot))
    · refine flt ?_ (Or.inl z)
      unfold B_spot_233
      exact y_bad hj hx (by decide) (by decide) (fun _ _ => by repeat' (first | exact KP_some kp_rf | with_reducible refine KP_bn ?_ (fun _ _ => ?_) | with_reducible refine KP_if ?_ ?_ | with_reducible refine KP_rd (fun _ => ?_) | with_reducible refine KP_zr ?_ | (with_reducible refine KP_pu2 ?_ ?_; first | exact ks_sI (by decide) kp_rf | exact ks_sL kp_rf | exact ks_sA (by decide) kp_rf | exact ks_sB (by decide) kp_rf) | (with_reducible refine KP_wr2 ?_ ?_; first | exact ks_sA (by decide) kp_rf | exact ks_sB (by decide) kp_rf) | with_reducible exact h_ro _ _ _ _ | with_reducible exact sk_F_is | with_reducible exact sk_F_take | with_reducible exact sk_F_emit | with_reducible exact sk_F_wrong | with_reducible exact sk_F_cost | with_reducible exact sk_F_stuck | with_reducible exact sk_F_ends | with_reducible exact sk_F_begins | with_reducible exact sk_F_opens | with_reducible exact sk_F_has | with_reducible exact sk_F_isNumber | with_reducible exact sk_F_isNext | with_reducible exact sk_F_push | with_reducible exact sk_F_lead | with_reducible exact sk_F_here | with_reducible exact sk_F_kind | with_reducible exact sk_F_isKind | with_reducible exact sk_F_own | with_reducible exact sk_F_constant | with_reducible exact sk_F_bounded | with_reducible exact sk_F_joined | with_reducible exact sk_F_strength | with_reducible exact sk_F_leadAll | with_reducible exact sk_F_loop | with_reducible exact sk_F_label | with_reducible exact sk_F_leaves | with_reducible exact sk_F_telling | with_reducible exact sk_F_local | with_reducible exact sk_F_addSlot | with_reducible exact sk_F_addVariable | with_reducible exact sk_F_isTooWide | with_reducible exact sk_F_named | with_reducible exact sk_F_slotOf | with_reducible exact sk_F_bad | with_reducible exact sk_G_expression | with_reducible exact sk_G_spot | with_reducible exact sk_G_body | with_reducible exact sk_G_stat | (with_reducible refine sk_B_spot_409 ?_ <;> assumption) | (with_reducible refine sk_B_spot_382 ?_ <;> assumption) | (with_reducible refine sk_B_spot_361 ?_ <;> assumption) | (with_reducible refine sk_B_spot_331 ?_ <;> assumption) | (with_reducible refine sk_B_spot_305 ?_ <;> assumption) | (with_reducible refine sk_B_spot_283 ?_ <;> assumption) | (with_reducible refine sk_B_spot_269 ?_ <;> assumption) | (with_reducible refine sk_B_spot_268 ?_ <;> assumption) | (with_reducible refine sk_B_spot_233 ?_ <;> assumption) | (with_reducible refine sk_B_spot_232 ?_ <;> assumption) | (with_reducible refine sk_B_spot_223 ?_ <;> assumption) | (with_reducible refine sk_B_spot_185 ?_ <;> assumption) | (with_reducible refine sk_B_spot_153 ?_ <;> assumption) | (with_reducible refine sk_B_spot_108 ?_ <;> assumption) | (with_reducible refine sk_B_spot_107 ?_ <;> assumption) | (with_reducible refine sk_B_spot_84 ?_ <;> assumption) | (with_reducible refine sk_B_spot_83 ?_ <;> assumption) | (with_reducible refine sk_B_spot_65 ?_ <;> assumption) | (with_reducible refine sk_B_spot_64 ?_ <;> assumption) | (with_reducible refine sk_B_spot_43 ?_ <;> assumption) | (with_reducible refine sk_B_spot_0 ?_ <;> assumption) | (with_reducible refine sk_F_spot ?_ <;> assumption) | with_reducible exact sk_G_spot))
  have h185 : ∀ l4 l8 x, RE u0 x i o l c → (s = -1 → l4 = g 0) → pp (B_spot_185 N ro a (u0.2.2.1 3 i) s 1 (160 * x.1 56 + l4) (spK u0 s (160 * u0.1 56 + g 0)) l8 x) Q := by
    intro l4 l8 x hx h4
    have e56 : x.1 56 = u0.1 56 := hx.sc (by decide)
    have key : pp (if (1 : Int32) = 0 then (B_spot_232 N ro a (u0.2.2.1 3 i) s 1 (160 * x.1 56 + l4) (spK u0 s (160 * u0.1 56 + g 0)) l8 f x) else (if s = -1 then (rd (x.2.2.1 13) 320 (160 * x.1 56 + l4) fun v_41 => B_spot_223 N ro a (u0.2.2.1 3 i) s 1 (160 * x.1 56 + l4) (spK u0 s (160 * u0.1 56 + g 0)) l8 f v_41 x) else (rd (x.2.2.1 22) 320 s fun v_43 => B_spot_223 N ro a (u0.2.2.1 3 i) s 1 (160 * x.1 56 + l4) (spK u0 s (160 * u0.1 56 + g 0)) l8 f v_43 x))) Q := by
      rw [if_neg (by decide)]
      have hx2 := h223 l4 l8 x hx h4
      unfold spR at hx2
      refine pp_if (fun z => pp_rd ?_) (fun z => pp_rd ?_)
      · rw [if_pos z] at hx2
        rw [hx.row (by decide)]
        rw [show (160 * x.1 56 + l4) = 160 * u0.1 56 + g 0 by rw [e56, h4 z]] at hx2 ⊢
        exact hx2
      · rw [if_neg z] at hx2
        rw [hx.row (by decide)]
        exact hx2
    unfold B_spot_185
    refine y_isNext hV.2.1 (t := 91) (by decide +kernel) hx hi hne (fun z => ?_) (fun z => ?_)
    · rw [if_pos z] at hf
      subst hf
      exact key
    · rw [if_neg z] at hf
      subst hf
      exact key
  have h108 : ∀ l4 x, RE u0 x i o l c → (s = -1 → l4 = g 0) → pp (B_spot_108 N ro a (u0.2.2.1 3 i) s l4 1 x) Q := by
    intro l4 x hx h4
    have e56 : x.1 56 = u0.1 56 := hx.sc (by decide)
    have h153 : pp (B_spot_153 N ro a (u0.2.2.1 3 i) s 1 (160 * x.1 56 + l4) (spK u0 s (160 * u0.1 56 + g 0)) x) Q := by
      unfold B_spot_153
      rw [if_neg (by decide)]
      exact pp_if (fun _ => pp_rd (h185 _ _ x hx h4)) (fun _ => pp_rd (h185 _ _ x hx h4))
    unfold B_spot_108
    rw [if_neg (by decide)]
    unfold spK at h153
    refine pp_if (fun z => pp_rd ?_) (fun z => pp_rd ?_)
    · rw [if_pos z] at h153
      rw [hx.row (by decide)]
      rw [show (160 * x.1 56 + l4) = 160 * u0.1 56 + g 0 by rw [e56, h4 z]] at h153 ⊢
      exact h153
    · rw [if_neg z] at h153
      rw [hx.row (by decide)]
      exact h153
  have h83 : ∀ l4, (s = -1 → l4 = g 0) → pp (B_spot_83 N ro a (u0.2.2.1 3 i) s l4 u) Q := by
    intro l4 h4
    unfold B_spot_83 B_spot_84
    refine y_ok rfl ?_
    rw [if_neg (h69 h'), if_pos h'.2.1]
    exact h108 l4 u h' h4
  unfold F_spot B_spot_0
  refine y_rA h' (by decide) ?_
  rw [if_neg (h69 h')]
  refine y_rB h' (by decide) (y_rB h' (by decide) (y_slotOf hK h' ?_))
  unfold B_spot_43
  refine pp_if (fun z => ?_) (fun z => ?_)
  · rw [if_neg (h69 h')]
    refine y_own hK h' ?_
    unfold B_spot_65
    rw [if_pos z, if_neg (fun q => hs ⟨z, q⟩)]
    exact h83 _ (fun _ => rfl)
  · unfold B_spot_64 B_spot_65
    rw [if_neg z]
    exact h83 _ (fun q => absurd q z)
theorem y_spot3 {m : Nat} (hV : EV2 v0 u0 n) (hK : KN1 v0 u0 i m s g) (h' : RE u0 u i o l c) (h_ro : ∀ q a b u, KP (ro q a b u) u) (hs : s = -1) (hg : g 0 = -1) : pp (F_spot N ro a u) (fun _ x => ¬ x.1 67 = 0 ∧ x.1 68 = u0.2.2.1 3 i) := by
  have hj := hV.2.2.2.2.1
  have h69 : ¬ u.1 69 = 0 := by rw [h'.sc (by decide)]; exact hj
  unfold F_spot B_spot_0
  refine y_rA h' (by decide) ?_
  rw [if_neg h69]
  refine y_rB h' (by decide) (y_rB h' (by decide) (y_slotOf hK h' ?_))
  unfold B_spot_43
  rw [if_pos hs, if_neg h69]
  refine y_own hK h' ?_
  unfold B_spot_65
  rw [if_pos hs, if_pos hg]
  unfold B_spot_84
  exact y_bad hj h' (by decide) (by decide) (fun _ _ => by repeat' (first | exact KP_some kp_rf | with_reducible refine KP_bn ?_ (fun _ _ => ?_) | with_reducible refine KP_if ?_ ?_ | with_reducible refine KP_rd (fun _ => ?_) | with_reducible refine KP_zr ?_ | (with_reducible refine KP_pu2 ?_ ?_; first | exact ks_sI (by decide) kp_rf | exact ks_sL kp_rf | exact ks_sA (by decide) kp_rf | exact ks_sB (by decide) kp_rf) | (with_reducible refine KP_wr2 ?_ ?_; first | exact ks_sA (by decide) kp_rf | exact ks_sB (by decide) kp_rf) | with_reducible exact h_ro _ _ _ _ | with_reducible exact sk_F_is | with_reducible exact sk_F_take | with_reducible exact sk_F_emit | with_reducible exact sk_F_wrong | with_reducible exact sk_F_cost | with_reducible exact sk_F_stuck | with_reducible exact sk_F_ends | with_reducible exact sk_F_begins | with_reducible exact sk_F_opens | with_reducible exact sk_F_has | with_reducible exact sk_F_isNumber | with_reducible exact sk_F_isNext | with_reducible exact sk_F_push | with_reducible exact sk_F_lead | with_reducible exact sk_F_here | with_reducible exact sk_F_kind | with_reducible exact sk_F_isKind | with_reducible exact sk_F_own | with_reducible exact sk_F_constant | with_reducible exact sk_F_bounded | with_reducible exact sk_F_joined | with_reducible exact sk_F_strength | with_reducible exact sk_F_leadAll | with_reducible exact sk_F_loop | with_reducible exact sk_F_label | with_reducible exact sk_F_leaves | with_reducible exact sk_F_telling | with_reducible exact sk_F_local | with_reducible exact sk_F_addSlot | with_reducible exact sk_F_addVariable | with_reducible exact sk_F_isTooWide | with_reducible exact sk_F_named | with_reducible exact sk_F_slotOf | with_reducible exact sk_F_bad | with_reducible exact sk_G_expression | with_reducible exact sk_G_spot | with_reducible exact sk_G_body | with_reducible exact sk_G_stat | (with_reducible refine sk_B_spot_409 ?_ <;> assumption) | (with_reducible refine sk_B_spot_382 ?_ <;> assumption) | (with_reducible refine sk_B_spot_361 ?_ <;> assumption) | (with_reducible refine sk_B_spot_331 ?_ <;> assumption) | (with_reducible refine sk_B_spot_305 ?_ <;> assumption) | (with_reducible refine sk_B_spot_283 ?_ <;> assumption) | (with_reducible refine sk_B_spot_269 ?_ <;> assumption) | (with_reducible refine sk_B_spot_268 ?_ <;> assumption) | (with_reducible refine sk_B_spot_233 ?_ <;> assumption) | (with_reducible refine sk_B_spot_232 ?_ <;> assumption) | (with_reducible refine sk_B_spot_223 ?_ <;> assumption) | (with_reducible refine sk_B_spot_185 ?_ <;> assumption) | (with_reducible refine sk_B_spot_153 ?_ <;> assumption) | (with_reducible refine sk_B_spot_108 ?_ <;> assumption) | (with_reducible refine sk_B_spot_107 ?_ <;> assumption) | (with_reducible refine sk_B_spot_84 ?_ <;> assumption) | (with_reducible refine sk_B_spot_83 ?_ <;> assumption) | (with_reducible refine sk_B_spot_65 ?_ <;> assumption) | (with_reducible refine sk_B_spot_64 ?_ <;> assumption) | (with_reducible refine sk_B_spot_43 ?_ <;> assumption) | (with_reducible refine sk_B_spot_0 ?_ <;> assumption) | (with_reducible refine sk_F_spot ?_ <;> assumption) | with_reducible exact sk_G_spot))
/-- Place: both -/
theorem j_placeK {β γ : Type} {A : β → CSt → γ → RSt → Prop} {K : Nat → CSt → Option (Sum Nat β × CSt)} {k' : Int32 → RSt → Option (γ × RSt)} {f : Int32} (hs' : ∀ r x, KP (k' r x) x) (hV : EV2 v0 u0 n) (h : CE v0 v i l e) (h' : RE u0 u i o l c) (hi : i < n) (ht : tyF v0 i = 128) (h_ro : ∀ q a b u, KP (ro q a b u) u) (hf : f = (if tyF v0 (i + 1) = 91 then 1 else 0))
    (kk : ∀ m l3 l6 l8 x, KD (mI v0 m 5) → mI v0 m 8 = f → RE u0 x i o l c → jx (K m v) (bn (B_spot_283 N ro (u0.2.2.1 3 i) l3 1 l6 (mI v0 m 5) l8 f x) k') A) : jx (bt (F_X8_placeName N a v) K) (bn (F_spot N ro a u) k') A := by
  obtain ⟨m, s, g, hm, hK, hM⟩ := hV.2.2.2.2.2.2 i hi ht
  have hpl := hV.pl (Nat.le_of_lt hi)
  have noN : (s = -1 ∧ g 0 = -1 ∧ ¬ (mI v0 m 2 = 0 ∨ mI v0 m 2 = 5 ∨ mI v0 m 2 = 6)) → jx (bt (F_X8_placeName N a v) K) (bn (F_spot N ro a u) k') A := by
    rintro ⟨hs, hg, hn⟩
    refine pq_bt ?_
    unfold F_X8_placeName B_X8_placeName_0
    refine k2_known hK h (pq_ok (fun _ => k2_hasNumbers h ?_))
    rw [if_neg hn, if_pos rfl]
    refine k2_here h (pq_refuse ⟨fun x q => ?_, fun b q => nomatch q⟩)
    cases q
    refine pp_bn (pp_m (y_spot3 hV hK h' h_ro hs hg) (fun r x q => pp_m (pp_flt (hs' r x) q.1 q.2) (fun _ _ q => Or.inl ⟨rfl, q.1, ?_⟩)))
    rw [q.2, ← hpl]
    rfl
  have yes : (¬ (s = -1 ∧ g 0 = -1)) → (mI v0 m 2 = 0 ∨ mI v0 m 2 = 5 ∨ mI v0 m 2 = 6) → KD (mI v0 m 5) → mI v0 m 5 = spK u0 s (160 * u0.1 56 + g 0) → mI v0 m 8 = spR u0 s (160 * u0.1 56 + g 0) → ((mI v0 m 2 = 0 ∧ mI v0 m 6 = 2) ↔ (s = -1 ∧ u0.2.2.1 12 (160 * u0.1 56 + g 0).toNatClampNeg = 2)) → jx (bt (F_X8_placeName N a v) K) (bn (F_spot N ro a u) k') A := by
    intro hs hn hkd ek er ein
    refine pq_bt ?_
    unfold F_X8_placeName B_X8_placeName_0
    refine k2_known hK h (pq_ok (fun _ => k2_hasNumbers h ?_))
    rw [if_pos hn, if_neg (by decide)]
    have bad : (¬ spR u0 s (160 * u0.1 56 + g 0) = f ∨ (¬ a = 0 ∧ s = -1 ∧ u0.2.2.1 12 (160 * u0.1 56 + g 0).toNatClampNeg = 2)) → pq (B_X8_placeName_63 N m v) (fun y w => (∀ x, y = .inl x → pp (bn (F_spot N ro a u) k') (fun r z => OFx A (.inl x) w r z)) ∧ (∀ b, y = .inr b → pq (K b w) (fun y w => pp (bn (F_spot N ro a u) k') (fun r z => OFx A y w r z)))) := by
      intro hb
      unfold B_X8_placeName_63
      refine k2_here h (pq_refuse ⟨fun x q => ?_, fun b q => nomatch q⟩)
      cases q
      refine pp_bn (y_spot hV hK h' hi ht h_ro hf hs (fun _ r x q1 q2 => pp_m (pp_flt (hs' r x) q1 q2) (fun _ _ q => Or.inl ⟨rfl, q.1, ?_⟩)) (fun q => absurd hb q))
      rw [q.2, ← hpl]
      rfl
    have good : ¬ (¬ spR u0 s (160 * u0.1 56 + g 0) = f ∨ (¬ a = 0 ∧ s = -1 ∧ u0.2.2.1 12 (160 * u0.1 56 + g 0).toNatClampNeg = 2)) → pq (some ((.inr m : Sum Nat Nat), v)) (fun y w => (∀ x, y = .inl x → pp (bn (F_spot N ro a u) k') (fun r z => OFx A (.inl x) w r z)) ∧ (∀ b, y = .inr b → pq (K b w) (fun y w => pp (bn (F_spot N ro a u) k') (fun r z => OFx A y w r z)))) := by
      intro hb
      refine pq_some ⟨(fun x q => nomatch q), fun b q => ?_⟩
      cases q
      refine jx_r (pp_bn (y_spot hV hK h' hi ht h_ro hf hs (fun q => absurd q hb) (fun _ l6 l8 x hx => pp_nb (jx_l ?_))))
      have := kk m s l6 l8 x hkd (er.trans (Classical.not_not.mp (fun q => hb (Or.inl q)))) hx
      rw [ek] at this
      exact this
    have h49 : ∀ s0 : Int32, s0 = f → pq (B_X8_placeName_49 N a m (mI v m 8) s0 v) (fun y w => (∀ x, y = .inl x → pp (bn (F_spot N ro a u) k') (fun r z => OFx A (.inl x) w r z)) ∧ (∀ b, y = .inr b → pq (K b w) (fun y w => pp (bn (F_spot N ro a u) k') (fun r z => OFx A y w r z)))) := by
      intro s0 h0
      subst h0
      unfold B_X8_placeName_49
      rw [h.nm]
      refine pq_if (fun z => pq_if (fun z2 => good (fun q => q.elim (fun q => q (er.symm.trans z)) (fun q => q.1 z2))) (fun z2 => k2_isInput h ?_)) (fun z => bad (Or.inl (fun q => z (er.trans q))))
      by_cases y : mI v0 m 2 = 0 ∧ mI v0 m 6 = 2
      · rw [if_pos y, if_neg (by decide)]
        exact bad (Or.inr ⟨z2, ein.mp y⟩)
      · rw [if_neg y, if_pos rfl]
        exact good (fun q => q.elim (fun q => q (er.symm.trans z)) (fun q => y (ein.mpr q.2)))
    unfold B_X8_placeName_27
    refine k2_ahead (m := 1) hV.1 h (by decide) (by omega) ?_
    by_cases z : tyF v0 (i + 1) = 91
    · rw [if_pos z] at hf ⊢
      exact h49 1 hf.symm
    · rw [if_neg z] at hf ⊢
      exact h49 0 hf.symm
  rcases hM with ⟨m1, m2, m3, m4⟩ | ⟨m1, m2, m3, m4, m5⟩ | ⟨m1, m2, m3, m4, m5⟩ | ⟨m1, m2, m3, m4⟩ | ⟨m1, m2, m3, m4⟩ | ⟨m1, m2, m3, m4, m5⟩ | ⟨m1, m2, m3, m4, m5⟩ | ⟨m1, m2, m3⟩
  · obtain ⟨a1, a2, a3, a4⟩ := m4
    refine yes (fun q => m1 q.1) (Or.inr m3) a3 ?_ ?_ ?_
    · unfold spK; rw [if_neg m1]; exact a1
    · unfold spR; rw [if_neg m1]; exact a2
    · refine ⟨fun q => ?_, fun q => absurd q.1 m1⟩
      rcases m3 with z | z <;> (rw [z] at q; exact absurd q.1 (by decide))
  · obtain ⟨a1, a2, a3, a4, a5⟩ := m5
    refine yes (fun q => m3 q.2) (Or.inl m2) a4 ?_ ?_ ?_
    · unfold spK; rw [if_pos m1]; exact a1
    · unfold spR; rw [if_pos m1]; exact a2
    · exact ⟨fun q => ⟨m1, a3.mp q.2⟩, fun q => ⟨m2, a3.mpr q.2⟩⟩
  · exact noN ⟨m1, m4 0 (by decide), by rw [m2]; decide⟩
  · exact noN ⟨m1, m4 0 (by decide), by rw [m2]; decide⟩
  · exact noN ⟨m1, m4 0 (by decide), by rw [m2]; decide⟩
  · exact noN ⟨m1, m4 0 (by decide), by rw [m2]; decide⟩
  · exact noN ⟨m1, m4 0 (by decide), by rw [m2]; decide⟩
  · exact noN ⟨m1, m3 0, by rw [m2]; decide⟩
theorem j_place {β : Type} {A : β → CSt → Int32 → RSt → Prop} {K : Nat → CSt → Option (Sum Nat β × CSt)} {f : Int32} (hV : EV2 v0 u0 n) (h : CE v0 v i l e) (h' : RE u0 u i o l c) (hi : i < n) (ht : tyF v0 i = 128) (h_ro : ∀ q a b u, KP (ro q a b u) u) (hf : f = (if tyF v0 (i + 1) = 91 then 1 else 0))
    (kk : ∀ m l3 l6 l8 x, KD (mI v0 m 5) → mI v0 m 8 = f → RE u0 x i o l c → jx (K m v) (B_spot_283 N ro (u0.2.2.1 3 i) l3 1 l6 (mI v0 m 5) l8 f x) A) : jx (bt (F_X8_placeName N a v) K) (F_spot N ro a u) A := by
  have := j_placeK (N := N) (K := K) (A := A) (k' := fun r w => some (r, w)) (a := a) (fun _ _ => KP_some kp_rf) hV h h' hi ht h_ro hf (fun m l3 l6 l8 x a1 a2 a3 => by rw [bn_id]; exact kk m l3 l6 l8 x a1 a2 a3)
  rw [bn_id] at this
  exact this
/-- the reference's spot behind the [ E ] -/
theorem y_305 {l3 l6 l7 l9 : Int32} {Q : Int32 → RSt → Prop} (h' : RE u0 u i o l c) (kk : ∀ w, RE u0 w i o l c → pp (B_spot_382 N ro l7 w) Q) : pp (B_spot_305 N ro l3 1 l6 l7 l9 u) Q := by
  have h361 : ∀ s1 s2 : Int32, pp (B_spot_361 N ro l7 l9 s1 s2 u) Q := by
    intro s1 s2
    unfold B_spot_361
    exact y_emit h' (fun _ w hw => pp_if (fun _ => kk w hw) (fun _ => y_emit hw (fun _ w2 h2 => kk w2 h2)))
  have h331 : ∀ s1 : Int32, pp (B_spot_331 N ro l3 1 l6 l7 l9 s1 u) Q := by
    intro s1
    unfold B_spot_331
    rw [if_neg (by decide)]
    exact pp_if (fun _ => pp_rd (h361 _ _)) (fun _ => pp_rd (h361 _ _))
  unfold B_spot_305
  exact pp_if (fun _ => h331 _) (fun _ => pp_if (fun _ => h331 _) (fun _ => h331 _))
end Spt2
