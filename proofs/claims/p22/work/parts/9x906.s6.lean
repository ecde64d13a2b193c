/-! The reference's first pass: the group of expressions. -/
def posK (u : RSt) : Nat := (u.1 65).toInt.toNat
/-- operands with operators of a strength from low on -/
def flw (ty : Nat → Int32) (O : Rl) (low : Int32) : Rl := oS O (oW (fun k => ¬ cS (ty k) < low) (oN O) oE)
theorem oW_ab {c c' : Nat → Prop} {A : Rl} {i : Nat} {q : Sum Nat Nat} (hc : ∀ k, c' k → c k) {B : Rl} (h : oS (oW c' A oE) (oW c A B) i q) : oW c A B i q := by
  rcases h with ⟨j, ⟨m, h1⟩, h2⟩ | ⟨p, ⟨m, h1⟩, h2⟩
  · induction m generalizing i with
    | zero => cases h1.2; exact h2
    | succ m ih =>
      rcases h1.2 with ⟨j1, d1, d2⟩ | ⟨p, d1, d2⟩
      · exact oW_s (hc _ h1.1) (Or.inl ⟨j1, d1, ih d2⟩)
      · cases d2
  · induction m generalizing i with
    | zero => cases h1.2
    | succ m ih =>
      rcases h1.2 with ⟨j1, d1, d2⟩ | ⟨p2, d1, d2⟩
      · exact oW_s (hc _ h1.1) (Or.inl ⟨j1, d1, ih d2⟩)
      · cases d2
        exact oW_s (hc _ h1.1) (Or.inr ⟨p, d1, h2⟩)
section RGrp
variable {ty ts ta : Nat → Int32} {N n i o : Nat} {u : RSt} {b : Prop} {X O : Rl} {ro : Nat → Int32 → Int32 → RSt → Option (Int32 × RSt)}
theorem RQ.pos (h : RQ ts ta u i o) : posK u = i := by
  have := h.2.2.2.2.1
  unfold posK
  omega
theorem r_inner (hT : RT ty ts n) (h_ro : ∀ q a b u, KP (ro q a b u) u) (h7 : ∀ (a b' : Int32) (i : Nat) (u : RSt), RQ ts ta u i o → i ≤ n → pp (ro 7 a b' u) (fun _ w => ORf ts ta n o (oS (oP ty b 91) (oS X (oT ty 93)) i) w)) (h : RQ ts ta u i o) (hi : i + 2 < n) (ht2 : ¬ isEnd (ty (i + 2))) : pp (F_inner N ro u) (fun _ w => ORf ts ta n o (dIdx ty b X (i + 3)) w) := by
  have hb := hT.2.2
  unfold F_inner B_inner_0
  refine r_own h ?_
  rw [if_pos rfl]
  unfold B_inner_17
  refine pp_rd (r_wrong h (pp_rd (r_cost h ?_)))
  have h2 : RQ ts ta (sI u 65 (u.1 65 + 2)) (i + 2) o := by
    obtain ⟨h1, h2, h3, h4, h5, h6⟩ := h
    refine ⟨h1, h2, h3, h4, ?_, h6⟩
    show (u.1 65 + 2).toInt = _
    have e2 : (2 : Int32).toInt = 2 := by decide
    rw [tI_add (by omega) (by omega), e2, h5]; omega
  have go : ∀ (v : Int32) (w : RSt), RQ ts ta w (i + 2) o → pp (B_inner_96 N ro (-1) v (-1) w) (fun _ w => ORf ts ta n o (dIdx ty b X (i + 3)) w) := by
    intro v w hw
    unfold B_inner_96 B_inner_97 LP_inner_102
    cases N with
    | zero => exact fun _ _ e => nomatch e
    | succ N =>
      show pp (B_inner_102 (N + 1) ro _ _ _ _ _ _ _) _
      unfold B_inner_102
      rw [if_pos hw.2.2.1]
      unfold B_inner_198
      rw [if_pos rfl]
      unfold B_inner_209
      refine r_wrong hw ?_
      have fin : ∀ (a d e f : Int32) (w : RSt) (j : Nat), RQ ts ta w j o → j ≤ n → pp (B_inner_315 (N + 1) ro a d e 0 w) (fun _ w => ORf ts ta n o (oE j) w) := by
        intro a d e f w j hw hj
        unfold B_inner_315
        rw [if_pos rfl]
        unfold B_inner_348
        have h369 : pp (B_inner_369 (N + 1) ro d 0 w) (fun _ w => ORf ts ta n o (oE j) w) := by
          unfold B_inner_369
          rw [if_pos rfl]
          unfold B_inner_387
          refine rr_emit hw (r_c hw (by decide) (fun w2 h2 => ?_))
          rw [if_pos rfl]
          exact r_end h2 hj
        exact rr_emit hw (pp_if (fun _ => h369) (fun _ => rr_emit hw h369))
      have h274 : ∀ f : Int32, (f = 0 ∧ ¬ ty (i + 3) = 91 ∨ ¬ f = 0 ∧ ty (i + 3) = 91) → pp (B_inner_241 (N + 1) ro (-1) v (-1) f w) (fun _ w => ORf ts ta n o (dIdx ty b X (i + 3)) w) := by
        intro f hf
        unfold B_inner_241 B_inner_242
        rw [if_pos rfl]
        unfold B_inner_274 B_inner_275
        refine r_wrong hw (r_adv hT hw hi (fun w2 h2 => ?_))
        rcases hf with ⟨f0, hn⟩ | ⟨f1, hy⟩
        · rw [if_pos f0]
          exact r_m (fun q hq => Or.inr ⟨hn, hq⟩) (fin _ _ _ 0 w2 (i + 3) h2 hi)
        · rw [if_neg f1, if_pos rfl]
          unfold B_inner_311
          refine r_m (D := oS (oS (oP ty b 91) (oS X (oT ty 93))) oE (i + 3)) (fun q hq => ?_) ?_
          · rcases hq with ⟨j, d1, d2⟩ | ⟨p, d1, d2⟩
            · cases d2; exact Or.inl ⟨hy, d1⟩
            · cases d2; exact Or.inl ⟨hy, d1⟩
          · exact r_bn (h7 _ _ _ w2 h2 hi) (fun _ w3 j3 _ hj3 h3 => fin _ _ _ 0 w3 j3 h3 hj3) (fun _ _ => by repeat' (first | exact KP_some kp_rf | with_reducible refine KP_bn ?_ (fun _ _ => ?_) | with_reducible refine KP_if ?_ ?_ | with_reducible refine KP_rd (fun _ => ?_) | with_reducible refine KP_zr ?_ | (with_reducible refine KP_pu2 ?_ ?_; first | exact ks_sI (by decide) kp_rf | exact ks_sL kp_rf | exact ks_sA (by decide) kp_rf | exact ks_sB (by decide) kp_rf) | (with_reducible refine KP_wr2 ?_ ?_; first | exact ks_sA (by decide) kp_rf | exact ks_sB (by decide) kp_rf) | with_reducible exact h_ro _ _ _ _ | with_reducible exact sk_F_is | with_reducible exact sk_F_take | with_reducible exact sk_F_emit | with_reducible exact sk_F_wrong | with_reducible exact sk_F_cost | with_reducible exact sk_F_stuck | with_reducible exact sk_F_ends | with_reducible exact sk_F_begins | with_reducible exact sk_F_opens | with_reducible exact sk_F_has | with_reducible exact sk_F_isNumber | with_reducible exact sk_F_isNext | with_reducible exact sk_F_push | with_reducible exact sk_F_lead | with_reducible exact sk_F_here | with_reducible exact sk_F_kind | with_reducible exact sk_F_isKind | with_reducible exact sk_F_own | with_reducible exact sk_F_constant | with_reducible exact sk_F_bounded | with_reducible exact sk_F_joined | with_reducible exact sk_F_strength | with_reducible exact sk_F_leadAll | with_reducible exact sk_F_loop | with_reducible exact sk_F_label | with_reducible exact sk_F_leaves | with_reducible exact sk_F_telling | with_reducible exact sk_F_local | with_reducible exact sk_F_addSlot | with_reducible exact sk_F_addVariable | with_reducible exact sk_F_isTooWide | with_reducible exact sk_F_named | with_reducible exact sk_F_slotOf | with_reducible exact sk_F_bad | with_reducible exact sk_G_expression | with_reducible exact sk_G_spot | with_reducible exact sk_G_body | with_reducible exact sk_G_stat | (with_reducible refine sk_B_inner_192 ?_ ?_ <;> assumption) | (with_reducible refine sk_B_inner_387 ?_ <;> assumption) | (with_reducible refine sk_B_inner_369 ?_ <;> assumption) | (with_reducible refine sk_B_inner_348 ?_ <;> assumption) | (with_reducible refine sk_B_inner_315 ?_ <;> assumption) | (with_reducible refine sk_B_inner_311 ?_ <;> assumption) | (with_reducible refine sk_B_inner_275 ?_ <;> assumption) | (with_reducible refine sk_B_inner_274 ?_ <;> assumption) | (with_reducible refine sk_B_inner_264 ?_ <;> assumption) | (with_reducible refine sk_B_inner_242 ?_ <;> assumption) | (with_reducible refine sk_B_inner_241 ?_ <;> assumption) | (with_reducible refine sk_B_inner_209 ?_ <;> assumption) | (with_reducible refine sk_B_inner_198 ?_ <;> assumption) | (with_reducible refine sk_B_inner_102 ?_ ?_ <;> assumption) | (with_reducible refine sk_LP_inner_102 ?_ _ _ <;> assumption) | (with_reducible refine sk_B_inner_97 ?_ <;> assumption) | (with_reducible refine sk_B_inner_96 ?_ <;> assumption) | (with_reducible refine sk_B_inner_17 ?_ <;> assumption) | (with_reducible refine sk_B_inner_0 ?_ <;> assumption) | (with_reducible refine sk_F_inner ?_ <;> assumption)))
      refine r_isNext hT (t := 91) (by decide +kernel) hw hi ht2 (fun c => ?_) (fun c => ?_)
      · rw [if_pos hw.2.2.1]
        exact h274 1 (Or.inr ⟨by decide, c⟩)
      · rw [if_pos hw.2.2.1]
        exact h274 0 (Or.inl ⟨rfl, c⟩)
  refine pp_pu (pp_rd ?_)
  rw [if_pos h2.2.2.1]
  exact go _ _ h2
theorem r_call (hT : RT ty ts n) (hB : b ↔ o < 24) (ho : o ≤ 24) (h_ro : ∀ q a b u, KP (ro q a b u) u) (hX : o < 24 → ∀ (i : Nat) (u : RSt), RQ ts ta u i (o + 1) → i ≤ n → pp (ro 0 0 0 u) (fun _ w => ORf ts ta n (o + 1) (X i) w)) (h : RQ ts ta u i o) (hi : i < n) : pp (F_call N ro u) (fun _ w => ORf ts ta n o (dArg ty b X (i + 1)) w) := by
  unfold F_call B_call_0
  refine r_own h (r_own h ?_)
  rw [if_pos rfl, if_pos rfl]
  unfold B_call_33
  refine pp_rd (r_wrong h (pp_rd (r_cost h (r_adv hT h hi (fun w hw => ?_)))))
  refine r_bn (r_begins hT (by decide +kernel) (nEnd (by decide) (by decide) (by decide)) (by decide) hB ho hw hi) (fun _ w2 j d hj h2 => ?_) (fun _ _ => by repeat' (first | exact KP_some kp_rf | with_reducible refine KP_bn ?_ (fun _ _ => ?_) | with_reducible refine KP_if ?_ ?_ | with_reducible refine KP_rd (fun _ => ?_) | with_reducible refine KP_zr ?_ | (with_reducible refine KP_pu2 ?_ ?_; first | exact ks_sI (by decide) kp_rf | exact ks_sL kp_rf | exact ks_sA (by decide) kp_rf | exact ks_sB (by decide) kp_rf) | (with_reducible refine KP_wr2 ?_ ?_; first | exact ks_sA (by decide) kp_rf | exact ks_sB (by decide) kp_rf) | with_reducible exact h_ro _ _ _ _ | with_reducible exact sk_F_is | with_reducible exact sk_F_take | with_reducible exact sk_F_emit | with_reducible exact sk_F_wrong | with_reducible exact sk_F_cost | with_reducible exact sk_F_stuck | with_reducible exact sk_F_ends | with_reducible exact sk_F_begins | with_reducible exact sk_F_opens | with_reducible exact sk_F_has | with_reducible exact sk_F_isNumber | with_reducible exact sk_F_isNext | with_reducible exact sk_F_push | with_reducible exact sk_F_lead | with_reducible exact sk_F_here | with_reducible exact sk_F_kind | with_reducible exact sk_F_isKind | with_reducible exact sk_F_own | with_reducible exact sk_F_constant | with_reducible exact sk_F_bounded | with_reducible exact sk_F_joined | with_reducible exact sk_F_strength | with_reducible exact sk_F_leadAll | with_reducible exact sk_F_loop | with_reducible exact sk_F_label | with_reducible exact sk_F_leaves | with_reducible exact sk_F_telling | with_reducible exact sk_F_local | with_reducible exact sk_F_addSlot | with_reducible exact sk_F_addVariable | with_reducible exact sk_F_isTooWide | with_reducible exact sk_F_named | with_reducible exact sk_F_slotOf | with_reducible exact sk_F_bad | with_reducible exact sk_G_expression | with_reducible exact sk_G_spot | with_reducible exact sk_G_body | with_reducible exact sk_G_stat | (with_reducible refine sk_B_call_222 ?_ ?_ <;> assumption) | (with_reducible refine sk_B_call_206 ?_ ?_ <;> assumption) | (with_reducible refine sk_B_call_288 ?_ <;> assumption) | (with_reducible refine sk_B_call_400 ?_ <;> assumption) | (with_reducible refine sk_B_call_384 ?_ <;> assumption) | (with_reducible refine sk_B_call_379 ?_ <;> assumption) | (with_reducible refine sk_B_call_383 ?_ <;> assumption) | (with_reducible refine sk_B_call_373 ?_ <;> assumption) | (with_reducible refine sk_B_call_347 ?_ <;> assumption) | (with_reducible refine sk_B_call_339 ?_ <;> assumption) | (with_reducible refine sk_B_call_334 ?_ <;> assumption) | (with_reducible refine sk_B_call_123 ?_ ?_ <;> assumption) | (with_reducible refine sk_LP_call_123 ?_ _ _ <;> assumption) | (with_reducible refine sk_B_call_121 ?_ <;> assumption) | (with_reducible refine sk_B_call_120 ?_ <;> assumption) | (with_reducible refine sk_B_call_33 ?_ <;> assumption) | (with_reducible refine sk_B_call_32 ?_ <;> assumption) | (with_reducible refine sk_B_call_0 ?_ <;> assumption) | (with_reducible refine sk_F_call ?_ <;> assumption)))
  have ho2 : o < 24 := hB.mp (by rcases d with ⟨q, -⟩ | ⟨-, q⟩; exact q.2; cases q)
  rw [if_pos h2.2.2.2.1]
  have loop : ∀ (M : Nat) (a : Int32 × Int32 × Int32 × Int32 × Int32 × Int32 × Int32 × Int32 × RSt), (∃ j, RQ ts ta a.2.2.2.2.2.2.2.2 j (o + 1) ∧ j ≤ n) → pp (LP_call_123 N ro M a) (fun _ w => ORf ts ta n o (if a.2.2.2.2.2.2.2.1 = 0 then oT ty 41 (posK a.2.2.2.2.2.2.2.2) else oS X (dAl ty X) (posK a.2.2.2.2.2.2.2.2)) w) := by
    refine pp_lpK (L := LP_call_123 N ro) (st := fun a => a.2.2.2.2.2.2.2.2) (Z := fun a _ w => ORf ts ta n o (if a.2.2.2.2.2.2.2.1 = 0 then oT ty 41 (posK a.2.2.2.2.2.2.2.2) else oS X (dAl ty X) (posK a.2.2.2.2.2.2.2.2)) w) (fun a => ∃ j, RQ ts ta a.2.2.2.2.2.2.2.2 j (o + 1) ∧ j ≤ n) rfl (fun m a => sk_LP_call_123 h_ro m a) ?_
    rintro R ⟨l1, l2, l3, l4, l5, l6, l7, l8, v⟩ h_R ⟨j, hv, hj⟩ ih
    dsimp only at hv ih ⊢
    rw [hv.pos]
    show pp (B_call_123 N ro R l1 l2 l3 l4 l5 l6 l7 l8 v) _
    unfold B_call_123
    by_cases c : l8 = 0
    · rw [if_pos c, if_pos c]
      refine pp_bn (pp_m (r_ends hT (t := 41) (by decide +kernel) (nEnd (by decide) (by decide) (by decide)) (by omega) hv hj) (fun _ w3 h3 => ?_))
      rcases h3 with ⟨p, d, hp, g⟩ | ⟨j3, d, hj3, g⟩
      · exact r_bad (by repeat' (first | exact KP_some kp_rf | with_reducible refine KP_bn ?_ (fun _ _ => ?_) | with_reducible refine KP_if ?_ ?_ | with_reducible refine KP_rd (fun _ => ?_) | with_reducible refine KP_zr ?_ | (with_reducible refine KP_pu2 ?_ ?_; first | exact ks_sI (by decide) kp_rf | exact ks_sL kp_rf | exact ks_sA (by decide) kp_rf | exact ks_sB (by decide) kp_rf) | (with_reducible refine KP_wr2 ?_ ?_; first | exact ks_sA (by decide) kp_rf | exact ks_sB (by decide) kp_rf) | with_reducible exact h_ro _ _ _ _ | with_reducible exact sk_F_is | with_reducible exact sk_F_take | with_reducible exact sk_F_emit | with_reducible exact sk_F_wrong | with_reducible exact sk_F_cost | with_reducible exact sk_F_stuck | with_reducible exact sk_F_ends | with_reducible exact sk_F_begins | with_reducible exact sk_F_opens | with_reducible exact sk_F_has | with_reducible exact sk_F_isNumber | with_reducible exact sk_F_isNext | with_reducible exact sk_F_push | with_reducible exact sk_F_lead | with_reducible exact sk_F_here | with_reducible exact sk_F_kind | with_reducible exact sk_F_isKind | with_reducible exact sk_F_own | with_reducible exact sk_F_constant | with_reducible exact sk_F_bounded | with_reducible exact sk_F_joined | with_reducible exact sk_F_strength | with_reducible exact sk_F_leadAll | with_reducible exact sk_F_loop | with_reducible exact sk_F_label | with_reducible exact sk_F_leaves | with_reducible exact sk_F_telling | with_reducible exact sk_F_local | with_reducible exact sk_F_addSlot | with_reducible exact sk_F_addVariable | with_reducible exact sk_F_isTooWide | with_reducible exact sk_F_named | with_reducible exact sk_F_slotOf | with_reducible exact sk_F_bad | with_reducible exact sk_G_expression | with_reducible exact sk_G_spot | with_reducible exact sk_G_body | with_reducible exact sk_G_stat | (with_reducible refine sk_B_call_222 ?_ ?_ <;> assumption) | (with_reducible refine sk_B_call_206 ?_ ?_ <;> assumption) | (with_reducible refine sk_B_call_288 ?_ <;> assumption) | (with_reducible refine sk_B_call_400 ?_ <;> assumption) | (with_reducible refine sk_B_call_384 ?_ <;> assumption) | (with_reducible refine sk_B_call_379 ?_ <;> assumption) | (with_reducible refine sk_B_call_383 ?_ <;> assumption) | (with_reducible refine sk_B_call_373 ?_ <;> assumption) | (with_reducible refine sk_B_call_347 ?_ <;> assumption) | (with_reducible refine sk_B_call_339 ?_ <;> assumption) | (with_reducible refine sk_B_call_334 ?_ <;> assumption) | (with_reducible refine sk_B_call_123 ?_ ?_ <;> assumption) | (with_reducible refine sk_LP_call_123 ?_ _ _ <;> assumption) | (with_reducible refine sk_B_call_121 ?_ <;> assumption) | (with_reducible refine sk_B_call_120 ?_ <;> assumption) | (with_reducible refine sk_B_call_33 ?_ <;> assumption) | (with_reducible refine sk_B_call_32 ?_ <;> assumption) | (with_reducible refine sk_B_call_0 ?_ <;> assumption) | (with_reducible refine sk_F_call ?_ <;> assumption))) g hp d
      · refine r_c g (by decide) (fun w4 h4 => ?_)
        rw [if_pos h4.2.2.1]
        exact pp_some (Or.inr ⟨j3, d, hj3, h4⟩)
    · rw [if_neg c, if_neg c]
      have hR : ∀ (l1 l2 l3 l4 l5 l6 l7 l10 : Int32) (w : RSt) (k : Nat), RQ ts ta w k (o + 1) → k ≤ n → pp (B_call_206 N ro R l1 l2 l3 l4 l5 l6 l7 l10 w) (fun _ w => ORf ts ta n o (dAl ty X k) w) := by
        intro l1 l2 l3 l4 l5 l6 l7 l10 w k hw hk
        have h222 : ∀ a b' c d e f g : Int32, pp (B_call_222 N ro R a b' c d e f g w) (fun _ w => ORf ts ta n o (dAl ty X k) w) := by
          intro a b' c d e f g
          unfold B_call_222
          refine rr_has hT (t := 44) (by decide +kernel) (nEnd (by decide) (by decide) (by decide)) hw hk (fun c2 hl w2 h2 => ?_) (fun c2 => ?_)
          · have := ih (a, b', c, d, e + 1, f, g, 1, w2) ⟨k + 1, h2, hl⟩
            dsimp only at this
            rw [h2.pos, if_neg (by decide)] at this
            exact r_m (fun q hq => oW_s (c := fun i => ty i = 44) c2 hq) this
          · have := ih (a, b', c, d, e + 1, f, g, 0, w) ⟨k, hw, hk⟩
            dsimp only at this
            rw [hw.pos, if_pos rfl] at this
            exact r_m (fun q hq => oW_0 (c := fun i => ty i = 44) c2 hq) this
        unfold B_call_206
        exact pp_if (fun _ => h222 _ _ _ _ _ _ _) (fun _ => h222 _ _ _ _ _ _ _)
      refine pp_rd (r_bn (hX ho2 j v hv hj) (fun r3 w3 j3 _ hj3 h3 => ?_) (fun _ _ => by repeat' (first | exact KP_some kp_rf | with_reducible refine KP_bn ?_ (fun _ _ => ?_) | with_reducible refine KP_if ?_ ?_ | with_reducible refine KP_rd (fun _ => ?_) | with_reducible refine KP_zr ?_ | (with_reducible refine KP_pu2 ?_ ?_; first | exact ks_sI (by decide) kp_rf | exact ks_sL kp_rf | exact ks_sA (by decide) kp_rf | exact ks_sB (by decide) kp_rf) | (with_reducible refine KP_wr2 ?_ ?_; first | exact ks_sA (by decide) kp_rf | exact ks_sB (by decide) kp_rf) | with_reducible exact h_ro _ _ _ _ | with_reducible exact sk_F_is | with_reducible exact sk_F_take | with_reducible exact sk_F_emit | with_reducible exact sk_F_wrong | with_reducible exact sk_F_cost | with_reducible exact sk_F_stuck | with_reducible exact sk_F_ends | with_reducible exact sk_F_begins | with_reducible exact sk_F_opens | with_reducible exact sk_F_has | with_reducible exact sk_F_isNumber | with_reducible exact sk_F_isNext | with_reducible exact sk_F_push | with_reducible exact sk_F_lead | with_reducible exact sk_F_here | with_reducible exact sk_F_kind | with_reducible exact sk_F_isKind | with_reducible exact sk_F_own | with_reducible exact sk_F_constant | with_reducible exact sk_F_bounded | with_reducible exact sk_F_joined | with_reducible exact sk_F_strength | with_reducible exact sk_F_leadAll | with_reducible exact sk_F_loop | with_reducible exact sk_F_label | with_reducible exact sk_F_leaves | with_reducible exact sk_F_telling | with_reducible exact sk_F_local | with_reducible exact sk_F_addSlot | with_reducible exact sk_F_addVariable | with_reducible exact sk_F_isTooWide | with_reducible exact sk_F_named | with_reducible exact sk_F_slotOf | with_reducible exact sk_F_bad | with_reducible exact sk_G_expression | with_reducible exact sk_G_spot | with_reducible exact sk_G_body | with_reducible exact sk_G_stat | (with_reducible refine sk_B_call_222 ?_ ?_ <;> assumption) | (with_reducible refine sk_B_call_206 ?_ ?_ <;> assumption) | (with_reducible refine sk_B_call_288 ?_ <;> assumption) | (with_reducible refine sk_B_call_400 ?_ <;> assumption) | (with_reducible refine sk_B_call_384 ?_ <;> assumption) | (with_reducible refine sk_B_call_379 ?_ <;> assumption) | (with_reducible refine sk_B_call_383 ?_ <;> assumption) | (with_reducible refine sk_B_call_373 ?_ <;> assumption) | (with_reducible refine sk_B_call_347 ?_ <;> assumption) | (with_reducible refine sk_B_call_339 ?_ <;> assumption) | (with_reducible refine sk_B_call_334 ?_ <;> assumption) | (with_reducible refine sk_B_call_123 ?_ ?_ <;> assumption) | (with_reducible refine sk_LP_call_123 ?_ _ _ <;> assumption) | (with_reducible refine sk_B_call_121 ?_ <;> assumption) | (with_reducible refine sk_B_call_120 ?_ <;> assumption) | (with_reducible refine sk_B_call_33 ?_ <;> assumption) | (with_reducible refine sk_B_call_32 ?_ <;> assumption) | (with_reducible refine sk_B_call_0 ?_ <;> assumption) | (with_reducible refine sk_F_call ?_ <;> assumption))))
      rw [if_pos h3.2.2.1]
      exact hR _ _ _ _ _ _ _ _ w3 j3 h3 hj3
  have fin : ∀ (a d e f g k l : Int32) (m : Int32), pp (LP_call_123 N ro N (a, d, e, f, g, k, l, m, w2)) (fun _ w => ORf ts ta n o (if m = 0 then oT ty 41 j else oS X (dAl ty X) j) w) := by
    intro a d e f g k l m
    have := loop N (a, d, e, f, g, k, l, m, w2) ⟨j, h2, hj⟩
    dsimp only at this
    rw [h2.pos] at this
    exact this
  refine r_if hT (t := 41) (by decide +kernel) h2 hj (fun c => ?_) (fun c => ?_)
  · unfold B_call_120 B_call_121
    refine r_m (fun q hq => Or.inl ⟨c, oW_0 (c := fun i => ty i = 44) (by show ¬ ty j = 44; rw [c]; decide) hq⟩) ?_
    exact r_t rfl (fin _ _ _ _ _ _ _ 0)
  · unfold B_call_121
    refine r_m (fun q hq => Or.inr ⟨c, hq⟩) ?_
    exact r_f (by decide) (fin _ _ _ _ _ _ _ 1)
theorem r_signed {l1 : Int32} (hT : RT ty ts n) (hB : b ↔ o < 24) (ho : o ≤ 24) (h_ro : ∀ q a b u, KP (ro q a b u) u) (hO : o < 24 → ∀ (i : Nat) (u : RSt), RQ ts ta u i (o + 1) → i ≤ n → pp (ro 2 0 0 u) (fun _ w => ORf ts ta n (o + 1) (O i) w)) (h : RQ ts ta u i o) (hi : i < n) (hn : ¬ ts i = 0) : pp (F_signed N ro l1 u) (fun _ w => ORf ts ta n o (oS (oPo ty b) O i) w) := by
  unfold F_signed B_signed_0
  refine r_opens hB ho hn h (fun hb w hw => ?_) (fun hb w hw => ?_)
  · refine pp_rd (r_cost hw (r_adv hT hw hi (fun w2 h2 => ?_)))
    have h143 : ∀ (y s : Int32) (w : RSt) (j : Nat), RQ ts ta w j o → j ≤ n → pp (B_signed_143 N ro l1 y s w) (fun _ w => ORf ts ta n o (oE j) w) := by
      intro y s w j hw hj
      unfold B_signed_143
      exact r_c hw (by decide) (fun w2 h2 => r_l h2 (fun w3 h3 => pp_if (fun _ => r_end h3 hj) (fun _ => pp_if (fun _ => r_end h3 hj) (fun _ => r_end h3 hj))))
    have h63 : ∀ (x y : Int32) (w : RSt) (j : Nat), RQ ts ta w j (o + 1) → j ≤ n → pp (B_signed_63 N ro l1 x y w) (fun _ w => ORf ts ta n o (oE j) w) := by
      intro x y w j hw hj
      have h102 : ∀ s z : Int32, pp (B_signed_102 N ro l1 x y s z w) (fun _ w => ORf ts ta n o (oE j) w) := by
        intro s z
        unfold B_signed_102 B_signed_142
        refine rr_emit hw (r_dec hw (by omega) (fun w2 h2 => ?_))
        exact pp_if (fun _ => pp_if (fun _ => h143 _ _ _ _ h2 hj) (fun _ => pp_if (fun _ => h143 _ _ _ _ h2 hj) (fun _ => h143 _ _ _ _ h2 hj))) (fun _ => h143 _ _ _ _ h2 hj)
      have h92 : ∀ s : Int32, pp (B_signed_92 N ro l1 x y s w) (fun _ w => ORf ts ta n o (oE j) w) := by
        intro s
        unfold B_signed_92
        exact pp_if (fun _ => h102 _ _) (fun _ => h102 _ _)
      unfold B_signed_63
      exact pp_if (fun _ => h92 _) (fun _ => pp_if (fun _ => h92 _) (fun _ => h92 _))
    have h47 : ∀ x : Int32, pp (B_signed_47 N ro l1 x w2) (fun _ w => ORf ts ta n o (oS (oPo ty b) O i) w) := by
      intro x
      unfold B_signed_47
      refine r_m (D := oS O oE (i + 1)) (fun q hq => ?_) ?_
      · rcases hq with ⟨j, d1, d2⟩ | ⟨p, d1, d2⟩
        · cases d2; exact Or.inl ⟨i + 1, Or.inl ⟨⟨rfl, hb⟩, rfl⟩, d1⟩
        · cases d2; exact Or.inl ⟨i + 1, Or.inl ⟨⟨rfl, hb⟩, rfl⟩, d1⟩
      · exact r_bn (hO (hB.mp hb) _ w2 h2 hi) (fun _ w3 j3 _ hj3 h3 => pp_if (fun _ => h63 _ _ _ _ h3 hj3) (fun _ => h63 _ _ _ _ h3 hj3)) (fun _ _ => by repeat' (first | exact KP_some kp_rf | with_reducible refine KP_bn ?_ (fun _ _ => ?_) | with_reducible refine KP_if ?_ ?_ | with_reducible refine KP_rd (fun _ => ?_) | with_reducible refine KP_zr ?_ | (with_reducible refine KP_pu2 ?_ ?_; first | exact ks_sI (by decide) kp_rf | exact ks_sL kp_rf | exact ks_sA (by decide) kp_rf | exact ks_sB (by decide) kp_rf) | (with_reducible refine KP_wr2 ?_ ?_; first | exact ks_sA (by decide) kp_rf | exact ks_sB (by decide) kp_rf) | with_reducible exact h_ro _ _ _ _ | with_reducible exact sk_F_is | with_reducible exact sk_F_take | with_reducible exact sk_F_emit | with_reducible exact sk_F_wrong | with_reducible exact sk_F_cost | with_reducible exact sk_F_stuck | with_reducible exact sk_F_ends | with_reducible exact sk_F_begins | with_reducible exact sk_F_opens | with_reducible exact sk_F_has | with_reducible exact sk_F_isNumber | with_reducible exact sk_F_isNext | with_reducible exact sk_F_push | with_reducible exact sk_F_lead | with_reducible exact sk_F_here | with_reducible exact sk_F_kind | with_reducible exact sk_F_isKind | with_reducible exact sk_F_own | with_reducible exact sk_F_constant | with_reducible exact sk_F_bounded | with_reducible exact sk_F_joined | with_reducible exact sk_F_strength | with_reducible exact sk_F_leadAll | with_reducible exact sk_F_loop | with_reducible exact sk_F_label | with_reducible exact sk_F_leaves | with_reducible exact sk_F_telling | with_reducible exact sk_F_local | with_reducible exact sk_F_addSlot | with_reducible exact sk_F_addVariable | with_reducible exact sk_F_isTooWide | with_reducible exact sk_F_named | with_reducible exact sk_F_slotOf | with_reducible exact sk_F_bad | with_reducible exact sk_G_expression | with_reducible exact sk_G_spot | with_reducible exact sk_G_body | with_reducible exact sk_G_stat | (with_reducible refine sk_B_signed_143 ?_ <;> assumption) | (with_reducible refine sk_B_signed_142 ?_ <;> assumption) | (with_reducible refine sk_B_signed_102 ?_ <;> assumption) | (with_reducible refine sk_B_signed_92 ?_ <;> assumption) | (with_reducible refine sk_B_signed_63 ?_ <;> assumption) | (with_reducible refine sk_B_signed_47 ?_ <;> assumption) | (with_reducible refine sk_B_signed_42 ?_ <;> assumption) | (with_reducible refine sk_B_signed_0 ?_ <;> assumption) | (with_reducible refine sk_F_signed ?_ <;> assumption)))
    unfold B_signed_42
    refine r_isNumber hT h2 hi (fun _ => ?_) (fun _ => ?_)
    · rw [if_neg (by decide)]
      exact h47 _
    · rw [if_pos rfl]
      refine r_is0 h2 (fun _ => ?_) (fun _ => ?_)
      · rw [if_neg (by decide)]; exact h47 _
      · rw [if_pos rfl]; exact h47 _
  · exact r_bad (by repeat' (first | exact KP_some kp_rf | with_reducible refine KP_bn ?_ (fun _ _ => ?_) | with_reducible refine KP_if ?_ ?_ | with_reducible refine KP_rd (fun _ => ?_) | with_reducible refine KP_zr ?_ | (with_reducible refine KP_pu2 ?_ ?_; first | exact ks_sI (by decide) kp_rf | exact ks_sL kp_rf | exact ks_sA (by decide) kp_rf | exact ks_sB (by decide) kp_rf) | (with_reducible refine KP_wr2 ?_ ?_; first | exact ks_sA (by decide) kp_rf | exact ks_sB (by decide) kp_rf) | with_reducible exact h_ro _ _ _ _ | with_reducible exact sk_F_is | with_reducible exact sk_F_take | with_reducible exact sk_F_emit | with_reducible exact sk_F_wrong | with_reducible exact sk_F_cost | with_reducible exact sk_F_stuck | with_reducible exact sk_F_ends | with_reducible exact sk_F_begins | with_reducible exact sk_F_opens | with_reducible exact sk_F_has | with_reducible exact sk_F_isNumber | with_reducible exact sk_F_isNext | with_reducible exact sk_F_push | with_reducible exact sk_F_lead | with_reducible exact sk_F_here | with_reducible exact sk_F_kind | with_reducible exact sk_F_isKind | with_reducible exact sk_F_own | with_reducible exact sk_F_constant | with_reducible exact sk_F_bounded | with_reducible exact sk_F_joined | with_reducible exact sk_F_strength | with_reducible exact sk_F_leadAll | with_reducible exact sk_F_loop | with_reducible exact sk_F_label | with_reducible exact sk_F_leaves | with_reducible exact sk_F_telling | with_reducible exact sk_F_local | with_reducible exact sk_F_addSlot | with_reducible exact sk_F_addVariable | with_reducible exact sk_F_isTooWide | with_reducible exact sk_F_named | with_reducible exact sk_F_slotOf | with_reducible exact sk_F_bad | with_reducible exact sk_G_expression | with_reducible exact sk_G_spot | with_reducible exact sk_G_body | with_reducible exact sk_G_stat | (with_reducible refine sk_B_signed_143 ?_ <;> assumption) | (with_reducible refine sk_B_signed_142 ?_ <;> assumption) | (with_reducible refine sk_B_signed_102 ?_ <;> assumption) | (with_reducible refine sk_B_signed_92 ?_ <;> assumption) | (with_reducible refine sk_B_signed_63 ?_ <;> assumption) | (with_reducible refine sk_B_signed_47 ?_ <;> assumption) | (with_reducible refine sk_B_signed_42 ?_ <;> assumption) | (with_reducible refine sk_B_signed_0 ?_ <;> assumption) | (with_reducible refine sk_F_signed ?_ <;> assumption))) hw (by omega) (Or.inr ⟨i, Or.inr ⟨fun z => hb z.2, rfl⟩, rfl⟩)
theorem r_cast (hT : RT ty ts n) (hB : b ↔ o < 24) (ho : o ≤ 24) (h_ro : ∀ q a b u, KP (ro q a b u) u) (hO : o < 24 → ∀ (i : Nat) (u : RSt), RQ ts ta u i (o + 1) → i ≤ n → pp (ro 2 0 0 u) (fun _ w => ORf ts ta n (o + 1) (O i) w)) (h : RQ ts ta u i o) (hi : i < n) (hn : ¬ ts i = 0) : pp (F_cast N ro u) (fun _ w => ORf ts ta n o (oS (oPo ty b) (oS (oKd ty) (oS (oT ty 41) O)) i) w) := by
  unfold F_cast B_cast_0
  refine r_opens hB ho hn h (fun hb w hw => ?_) (fun hb w hw => ?_)
  · refine r_m (D := oS (oKd ty) (oS (oT ty 41) O) (i + 1)) (fun q hq => Or.inl ⟨i + 1, Or.inl ⟨⟨rfl, hb⟩, rfl⟩, hq⟩) ?_
    refine pp_rd (r_cost hw (r_adv hT hw hi (fun w2 h2 => ?_)))
    refine r_bn (r_kind hT h2 hi) (fun r3 w3 j3 _ hj3 h3 => ?_) (fun _ _ => by repeat' (first | exact KP_some kp_rf | with_reducible refine KP_bn ?_ (fun _ _ => ?_) | with_reducible refine KP_if ?_ ?_ | with_reducible refine KP_rd (fun _ => ?_) | with_reducible refine KP_zr ?_ | (with_reducible refine KP_pu2 ?_ ?_; first | exact ks_sI (by decide) kp_rf | exact ks_sL kp_rf | exact ks_sA (by decide) kp_rf | exact ks_sB (by decide) kp_rf) | (with_reducible refine KP_wr2 ?_ ?_; first | exact ks_sA (by decide) kp_rf | exact ks_sB (by decide) kp_rf) | with_reducible exact h_ro _ _ _ _ | with_reducible exact sk_F_is | with_reducible exact sk_F_take | with_reducible exact sk_F_emit | with_reducible exact sk_F_wrong | with_reducible exact sk_F_cost | with_reducible exact sk_F_stuck | with_reducible exact sk_F_ends | with_reducible exact sk_F_begins | with_reducible exact sk_F_opens | with_reducible exact sk_F_has | with_reducible exact sk_F_isNumber | with_reducible exact sk_F_isNext | with_reducible exact sk_F_push | with_reducible exact sk_F_lead | with_reducible exact sk_F_here | with_reducible exact sk_F_kind | with_reducible exact sk_F_isKind | with_reducible exact sk_F_own | with_reducible exact sk_F_constant | with_reducible exact sk_F_bounded | with_reducible exact sk_F_joined | with_reducible exact sk_F_strength | with_reducible exact sk_F_leadAll | with_reducible exact sk_F_loop | with_reducible exact sk_F_label | with_reducible exact sk_F_leaves | with_reducible exact sk_F_telling | with_reducible exact sk_F_local | with_reducible exact sk_F_addSlot | with_reducible exact sk_F_addVariable | with_reducible exact sk_F_isTooWide | with_reducible exact sk_F_named | with_reducible exact sk_F_slotOf | with_reducible exact sk_F_bad | with_reducible exact sk_G_expression | with_reducible exact sk_G_spot | with_reducible exact sk_G_body | with_reducible exact sk_G_stat))
    refine r_bn (r_take hT (by decide +kernel) (nEnd (by decide) (by decide) (by decide)) h3 hj3) (fun r4 w4 j4 _ hj4 h4 => ?_) (fun _ _ => by repeat' (first | exact KP_some kp_rf | with_reducible refine KP_bn ?_ (fun _ _ => ?_) | with_reducible refine KP_if ?_ ?_ | with_reducible refine KP_rd (fun _ => ?_) | with_reducible refine KP_zr ?_ | (with_reducible refine KP_pu2 ?_ ?_; first | exact ks_sI (by decide) kp_rf | exact ks_sL kp_rf | exact ks_sA (by decide) kp_rf | exact ks_sB (by decide) kp_rf) | (with_reducible refine KP_wr2 ?_ ?_; first | exact ks_sA (by decide) kp_rf | exact ks_sB (by decide) kp_rf) | with_reducible exact h_ro _ _ _ _ | with_reducible exact sk_F_is | with_reducible exact sk_F_take | with_reducible exact sk_F_emit | with_reducible exact sk_F_wrong | with_reducible exact sk_F_cost | with_reducible exact sk_F_stuck | with_reducible exact sk_F_ends | with_reducible exact sk_F_begins | with_reducible exact sk_F_opens | with_reducible exact sk_F_has | with_reducible exact sk_F_isNumber | with_reducible exact sk_F_isNext | with_reducible exact sk_F_push | with_reducible exact sk_F_lead | with_reducible exact sk_F_here | with_reducible exact sk_F_kind | with_reducible exact sk_F_isKind | with_reducible exact sk_F_own | with_reducible exact sk_F_constant | with_reducible exact sk_F_bounded | with_reducible exact sk_F_joined | with_reducible exact sk_F_strength | with_reducible exact sk_F_leadAll | with_reducible exact sk_F_loop | with_reducible exact sk_F_label | with_reducible exact sk_F_leaves | with_reducible exact sk_F_telling | with_reducible exact sk_F_local | with_reducible exact sk_F_addSlot | with_reducible exact sk_F_addVariable | with_reducible exact sk_F_isTooWide | with_reducible exact sk_F_named | with_reducible exact sk_F_slotOf | with_reducible exact sk_F_bad | with_reducible exact sk_G_expression | with_reducible exact sk_G_spot | with_reducible exact sk_G_body | with_reducible exact sk_G_stat))
    refine r_m (D := oS O oE j4) (fun q hq => ?_) ?_
    · rcases hq with ⟨j, d1, d2⟩ | ⟨p, d1, d2⟩
      · cases d2; exact d1
      · cases d2; exact d1
    · refine r_bn (hO (hB.mp hb) _ w4 h4 hj4) (fun r5 w5 j5 _ hj5 h5 => ?_) (fun _ _ => by repeat' (first | exact KP_some kp_rf | with_reducible refine KP_bn ?_ (fun _ _ => ?_) | with_reducible refine KP_if ?_ ?_ | with_reducible refine KP_rd (fun _ => ?_) | with_reducible refine KP_zr ?_ | (with_reducible refine KP_pu2 ?_ ?_; first | exact ks_sI (by decide) kp_rf | exact ks_sL kp_rf | exact ks_sA (by decide) kp_rf | exact ks_sB (by decide) kp_rf) | (with_reducible refine KP_wr2 ?_ ?_; first | exact ks_sA (by decide) kp_rf | exact ks_sB (by decide) kp_rf) | with_reducible exact h_ro _ _ _ _ | with_reducible exact sk_F_is | with_reducible exact sk_F_take | with_reducible exact sk_F_emit | with_reducible exact sk_F_wrong | with_reducible exact sk_F_cost | with_reducible exact sk_F_stuck | with_reducible exact sk_F_ends | with_reducible exact sk_F_begins | with_reducible exact sk_F_opens | with_reducible exact sk_F_has | with_reducible exact sk_F_isNumber | with_reducible exact sk_F_isNext | with_reducible exact sk_F_push | with_reducible exact sk_F_lead | with_reducible exact sk_F_here | with_reducible exact sk_F_kind | with_reducible exact sk_F_isKind | with_reducible exact sk_F_own | with_reducible exact sk_F_constant | with_reducible exact sk_F_bounded | with_reducible exact sk_F_joined | with_reducible exact sk_F_strength | with_reducible exact sk_F_leadAll | with_reducible exact sk_F_loop | with_reducible exact sk_F_label | with_reducible exact sk_F_leaves | with_reducible exact sk_F_telling | with_reducible exact sk_F_local | with_reducible exact sk_F_addSlot | with_reducible exact sk_F_addVariable | with_reducible exact sk_F_isTooWide | with_reducible exact sk_F_named | with_reducible exact sk_F_slotOf | with_reducible exact sk_F_bad | with_reducible exact sk_G_expression | with_reducible exact sk_G_spot | with_reducible exact sk_G_body | with_reducible exact sk_G_stat))
      exact rr_emit h5 (r_dec h5 (by omega) (fun w6 h6 => r_c h6 (by decide) (fun w7 h7 => r_end h7 hj5)))
  · exact r_bad (by repeat' (first | exact KP_some kp_rf | with_reducible refine KP_bn ?_ (fun _ _ => ?_) | with_reducible refine KP_if ?_ ?_ | with_reducible refine KP_rd (fun _ => ?_) | with_reducible refine KP_zr ?_ | (with_reducible refine KP_pu2 ?_ ?_; first | exact ks_sI (by decide) kp_rf | exact ks_sL kp_rf | exact ks_sA (by decide) kp_rf | exact ks_sB (by decide) kp_rf) | (with_reducible refine KP_wr2 ?_ ?_; first | exact ks_sA (by decide) kp_rf | exact ks_sB (by decide) kp_rf) | with_reducible exact h_ro _ _ _ _ | with_reducible exact sk_F_is | with_reducible exact sk_F_take | with_reducible exact sk_F_emit | with_reducible exact sk_F_wrong | with_reducible exact sk_F_cost | with_reducible exact sk_F_stuck | with_reducible exact sk_F_ends | with_reducible exact sk_F_begins | with_reducible exact sk_F_opens | with_reducible exact sk_F_has | with_reducible exact sk_F_isNumber | with_reducible exact sk_F_isNext | with_reducible exact sk_F_push | with_reducible exact sk_F_lead | with_reducible exact sk_F_here | with_reducible exact sk_F_kind | with_reducible exact sk_F_isKind | with_reducible exact sk_F_own | with_reducible exact sk_F_constant | with_reducible exact sk_F_bounded | with_reducible exact sk_F_joined | with_reducible exact sk_F_strength | with_reducible exact sk_F_leadAll | with_reducible exact sk_F_loop | with_reducible exact sk_F_label | with_reducible exact sk_F_leaves | with_reducible exact sk_F_telling | with_reducible exact sk_F_local | with_reducible exact sk_F_addSlot | with_reducible exact sk_F_addVariable | with_reducible exact sk_F_isTooWide | with_reducible exact sk_F_named | with_reducible exact sk_F_slotOf | with_reducible exact sk_F_bad | with_reducible exact sk_G_expression | with_reducible exact sk_G_spot | with_reducible exact sk_G_body | with_reducible exact sk_G_stat)) hw (by omega) (Or.inr ⟨i, Or.inr ⟨fun z => hb z.2, rfl⟩, rfl⟩)
theorem rr_two {low : Int32} (hT : RT ty ts n) (h_ro : ∀ q a b u, KP (ro q a b u) u) (hO : ∀ (i : Nat) (u : RSt), RQ ts ta u i o → i ≤ n → pp (ro 2 0 0 u) (fun _ w => ORf ts ta n o (O i) w)) (h1 : ∀ (low : Int32) (i : Nat) (u : RSt), 1 ≤ low.toInt → low.toInt ≤ 11 → RQ ts ta u i o → i ≤ n → pp (ro 1 low 0 u) (fun _ w => ORf ts ta n o (flw ty O low i) w)) (l1 : 1 ≤ low.toInt) (l2 : low.toInt ≤ 11) (h : RQ ts ta u i o) (hi : i ≤ n) : pp (F_two N ro low u) (fun _ w => ORf ts ta n o (flw ty O low i) w) := by
  have e1 : (1 : Int32).toInt = 1 := by decide
  have e3 : (3 : Int32).toInt = 3 := by decide
  unfold F_two B_two_0
  refine r_bn (hO i u h hi) (fun r w j _ hj hw => ?_) (fun _ _ => by repeat' (first | exact KP_some kp_rf | with_reducible refine KP_bn ?_ (fun _ _ => ?_) | with_reducible refine KP_if ?_ ?_ | with_reducible refine KP_rd (fun _ => ?_) | with_reducible refine KP_zr ?_ | (with_reducible refine KP_pu2 ?_ ?_; first | exact ks_sI (by decide) kp_rf | exact ks_sL kp_rf | exact ks_sA (by decide) kp_rf | exact ks_sB (by decide) kp_rf) | (with_reducible refine KP_wr2 ?_ ?_; first | exact ks_sA (by decide) kp_rf | exact ks_sB (by decide) kp_rf) | with_reducible exact h_ro _ _ _ _ | with_reducible exact sk_F_is | with_reducible exact sk_F_take | with_reducible exact sk_F_emit | with_reducible exact sk_F_wrong | with_reducible exact sk_F_cost | with_reducible exact sk_F_stuck | with_reducible exact sk_F_ends | with_reducible exact sk_F_begins | with_reducible exact sk_F_opens | with_reducible exact sk_F_has | with_reducible exact sk_F_isNumber | with_reducible exact sk_F_isNext | with_reducible exact sk_F_push | with_reducible exact sk_F_lead | with_reducible exact sk_F_here | with_reducible exact sk_F_kind | with_reducible exact sk_F_isKind | with_reducible exact sk_F_own | with_reducible exact sk_F_constant | with_reducible exact sk_F_bounded | with_reducible exact sk_F_joined | with_reducible exact sk_F_strength | with_reducible exact sk_F_leadAll | with_reducible exact sk_F_loop | with_reducible exact sk_F_label | with_reducible exact sk_F_leaves | with_reducible exact sk_F_telling | with_reducible exact sk_F_local | with_reducible exact sk_F_addSlot | with_reducible exact sk_F_addVariable | with_reducible exact sk_F_isTooWide | with_reducible exact sk_F_named | with_reducible exact sk_F_slotOf | with_reducible exact sk_F_bad | with_reducible exact sk_G_expression | with_reducible exact sk_G_spot | with_reducible exact sk_G_body | with_reducible exact sk_G_stat | (with_reducible refine sk_B_two_159 ?_ ?_ <;> assumption) | (with_reducible refine sk_B_two_124 ?_ ?_ <;> assumption) | (with_reducible refine sk_B_two_71 ?_ ?_ <;> assumption) | (with_reducible refine sk_B_two_10 ?_ ?_ <;> assumption) | (with_reducible refine sk_LP_two_10 ?_ _ _ <;> assumption) | (with_reducible refine sk_B_two_0 ?_ <;> assumption) | (with_reducible refine sk_F_two ?_ <;> assumption)))
  refine r_strength hT hw hj ?_
  have loop : ∀ (M : Nat) (a : Int32 × Int32 × Int32 × RSt), (∃ j, RQ ts ta a.2.2.2 j o ∧ j ≤ n ∧ a.1 = low ∧ a.2.2.1 = cS (ty j)) → pp (LP_two_10 N ro M a) (fun _ w => ORf ts ta n o (oW (fun k => ¬ cS (ty k) < low) (oN O) oE (posK a.2.2.2)) w) := by
    refine pp_lpK (L := LP_two_10 N ro) (st := fun a => a.2.2.2) (Z := fun a _ w => ORf ts ta n o (oW (fun k => ¬ cS (ty k) < low) (oN O) oE (posK a.2.2.2)) w) (fun a => ∃ j, RQ ts ta a.2.2.2 j o ∧ j ≤ n ∧ a.1 = low ∧ a.2.2.1 = cS (ty j)) rfl (fun m a => sk_LP_two_10 h_ro m a) ?_
    rintro R ⟨a1, a2, a3, v⟩ h_R ⟨k, hv, hk, q1, q2⟩ ih
    dsimp only at hv q1 q2 ih ⊢
    subst q1
    subst q2
    rw [hv.pos]
    show pp (B_two_10 N ro R a1 a2 (cS (ty k)) v) _
    unfold B_two_10
    obtain ⟨s0, s1⟩ := cS_le (ty k)
    refine pp_if (fun c => r_m (fun q hq => oW_0 (fun z => z c) hq) (r_end hv hk)) (fun c => ?_)
    have c1 : a1.toInt ≤ (cS (ty k)).toInt := by
      have := Int32.not_lt.mp c
      exact Int32.le_iff_toInt_le.mp this
    have hop : isOp (ty k) := (isOp_iff _).mpr (fun q => by have := Int32.lt_iff_toInt_lt.mp q; omega)
    have hl : k < n := hT.lt hk hop.ne
    have es : (cS (ty k) + 1).toInt = (cS (ty k)).toInt + 1 := by rw [tI_add (by omega) (by omega), e1]
    have sub : ∀ x, ¬ cS (ty x) < cS (ty k) + 1 → ¬ cS (ty x) < a1 := by
      intro x hx q
      refine hx (Int32.lt_iff_toInt_lt.mpr ?_)
      have := Int32.lt_iff_toInt_lt.mp q
      omega
    have join : ∀ q, oS (oN (flw ty O (cS (ty k) + 1))) (oW (fun x => ¬ cS (ty x) < a1) (oN O) oE) k q → oW (fun x => ¬ cS (ty x) < a1) (oN O) oE k q := by
      intro q hq
      refine oW_s c ?_
      rcases hq with ⟨j1, ⟨j2, d1, d2⟩ | ⟨p, d1, d2⟩, d3⟩ | ⟨p, ⟨j2, d1, d2⟩ | ⟨p2, d1, d2⟩, d3⟩
      · exact Or.inl ⟨j2, d1, oW_ab sub (Or.inl ⟨j1, d2, d3⟩)⟩
      · cases d2
      · exact Or.inl ⟨j2, d1, oW_ab sub (Or.inr ⟨p, d2, d3⟩)⟩
      · cases d2
        exact Or.inr ⟨p, d1, d3⟩
    have h159 : ∀ (x : Int32) (w : RSt) (j : Nat), RQ ts ta w j o → j ≤ n → pp (B_two_159 N ro R a1 x w) (fun _ w => ORf ts ta n o (oW (fun x => ¬ cS (ty x) < a1) (oN O) oE j) w) := by
      intro x w j hw hj
      unfold B_two_159
      refine r_c hw (by decide) (fun w2 h2 => r_strength hT h2 hj ?_)
      have := ih (a1, x, cS (ty j), w2) ⟨j, h2, hj, rfl, rfl⟩
      dsimp only at this
      rw [h2.pos] at this
      exact this
    refine r_ts hv (pp_rd (r_adv hT hv hl (fun w hw => r_cost hw ?_)))
    have hone := h1 (cS (ty k) + 1) (k + 1) w (by omega) (by omega) hw hl
    refine pp_if (fun c3 => ?_) (fun c3 => ?_)
    · refine r_m join (r_bn (A := oN (flw ty O (cS (ty k) + 1))) hone (fun r3 w3 j3 _ hj3 h3 => ?_) (fun _ _ => by repeat' (first | exact KP_some kp_rf | with_reducible refine KP_bn ?_ (fun _ _ => ?_) | with_reducible refine KP_if ?_ ?_ | with_reducible refine KP_rd (fun _ => ?_) | with_reducible refine KP_zr ?_ | (with_reducible refine KP_pu2 ?_ ?_; first | exact ks_sI (by decide) kp_rf | exact ks_sL kp_rf | exact ks_sA (by decide) kp_rf | exact ks_sB (by decide) kp_rf) | (with_reducible refine KP_wr2 ?_ ?_; first | exact ks_sA (by decide) kp_rf | exact ks_sB (by decide) kp_rf) | with_reducible exact h_ro _ _ _ _ | with_reducible exact sk_F_is | with_reducible exact sk_F_take | with_reducible exact sk_F_emit | with_reducible exact sk_F_wrong | with_reducible exact sk_F_cost | with_reducible exact sk_F_stuck | with_reducible exact sk_F_ends | with_reducible exact sk_F_begins | with_reducible exact sk_F_opens | with_reducible exact sk_F_has | with_reducible exact sk_F_isNumber | with_reducible exact sk_F_isNext | with_reducible exact sk_F_push | with_reducible exact sk_F_lead | with_reducible exact sk_F_here | with_reducible exact sk_F_kind | with_reducible exact sk_F_isKind | with_reducible exact sk_F_own | with_reducible exact sk_F_constant | with_reducible exact sk_F_bounded | with_reducible exact sk_F_joined | with_reducible exact sk_F_strength | with_reducible exact sk_F_leadAll | with_reducible exact sk_F_loop | with_reducible exact sk_F_label | with_reducible exact sk_F_leaves | with_reducible exact sk_F_telling | with_reducible exact sk_F_local | with_reducible exact sk_F_addSlot | with_reducible exact sk_F_addVariable | with_reducible exact sk_F_isTooWide | with_reducible exact sk_F_named | with_reducible exact sk_F_slotOf | with_reducible exact sk_F_bad | with_reducible exact sk_G_expression | with_reducible exact sk_G_spot | with_reducible exact sk_G_body | with_reducible exact sk_G_stat | (with_reducible refine sk_B_two_159 ?_ ?_ <;> assumption) | (with_reducible refine sk_B_two_124 ?_ ?_ <;> assumption) | (with_reducible refine sk_B_two_71 ?_ ?_ <;> assumption) | (with_reducible refine sk_B_two_10 ?_ ?_ <;> assumption) | (with_reducible refine sk_LP_two_10 ?_ _ _ <;> assumption) | (with_reducible refine sk_B_two_0 ?_ <;> assumption) | (with_reducible refine sk_F_two ?_ <;> assumption))))
      exact r_joined h3 (fun r => h159 _ _ _ h3 hj3)
    · have h71 : ∀ s : Int32, pp (B_two_71 N ro R a1 (cS (ty k)) s w) (fun _ w => ORf ts ta n o (oW (fun x => ¬ cS (ty x) < a1) (oN O) oE k) w) := by
        intro s
        unfold B_two_71
        refine rr_emit hw (r_m join (r_bn (A := oN (flw ty O (cS (ty k) + 1))) hone (fun r3 w3 j3 _ hj3 h3 => ?_) (fun _ _ => by repeat' (first | exact KP_some kp_rf | with_reducible refine KP_bn ?_ (fun _ _ => ?_) | with_reducible refine KP_if ?_ ?_ | with_reducible refine KP_rd (fun _ => ?_) | with_reducible refine KP_zr ?_ | (with_reducible refine KP_pu2 ?_ ?_; first | exact ks_sI (by decide) kp_rf | exact ks_sL kp_rf | exact ks_sA (by decide) kp_rf | exact ks_sB (by decide) kp_rf) | (with_reducible refine KP_wr2 ?_ ?_; first | exact ks_sA (by decide) kp_rf | exact ks_sB (by decide) kp_rf) | with_reducible exact h_ro _ _ _ _ | with_reducible exact sk_F_is | with_reducible exact sk_F_take | with_reducible exact sk_F_emit | with_reducible exact sk_F_wrong | with_reducible exact sk_F_cost | with_reducible exact sk_F_stuck | with_reducible exact sk_F_ends | with_reducible exact sk_F_begins | with_reducible exact sk_F_opens | with_reducible exact sk_F_has | with_reducible exact sk_F_isNumber | with_reducible exact sk_F_isNext | with_reducible exact sk_F_push | with_reducible exact sk_F_lead | with_reducible exact sk_F_here | with_reducible exact sk_F_kind | with_reducible exact sk_F_isKind | with_reducible exact sk_F_own | with_reducible exact sk_F_constant | with_reducible exact sk_F_bounded | with_reducible exact sk_F_joined | with_reducible exact sk_F_strength | with_reducible exact sk_F_leadAll | with_reducible exact sk_F_loop | with_reducible exact sk_F_label | with_reducible exact sk_F_leaves | with_reducible exact sk_F_telling | with_reducible exact sk_F_local | with_reducible exact sk_F_addSlot | with_reducible exact sk_F_addVariable | with_reducible exact sk_F_isTooWide | with_reducible exact sk_F_named | with_reducible exact sk_F_slotOf | with_reducible exact sk_F_bad | with_reducible exact sk_G_expression | with_reducible exact sk_G_spot | with_reducible exact sk_G_body | with_reducible exact sk_G_stat | (with_reducible refine sk_B_two_159 ?_ ?_ <;> assumption) | (with_reducible refine sk_B_two_124 ?_ ?_ <;> assumption) | (with_reducible refine sk_B_two_71 ?_ ?_ <;> assumption) | (with_reducible refine sk_B_two_10 ?_ ?_ <;> assumption) | (with_reducible refine sk_LP_two_10 ?_ _ _ <;> assumption) | (with_reducible refine sk_B_two_0 ?_ <;> assumption) | (with_reducible refine sk_F_two ?_ <;> assumption)))))
        have h124 : ∀ (x : Int32) (s : Int64), pp (B_two_124 N ro R a1 x s w3) (fun _ w => ORf ts ta n o (oW (fun x => ¬ cS (ty x) < a1) (oN O) oE j3) w) := by
          intro x s
          unfold B_two_124
          exact rr_push h3 (r_lead h3 (h159 _ _ _ h3 hj3))
        exact rr_emit h3 (rr_emit h3 (r_lead h3 (pp_if (fun _ => h124 _ _) (fun _ => h124 _ _))))
      exact pp_if (fun _ => h71 _) (fun _ => h71 _)
  have := loop N (low, r, cS (ty j), w) ⟨j, hw, hj, rfl, rfl⟩
  dsimp only at this
  rw [hw.pos] at this
  exact this
theorem r_expression (hT : RT ty ts n) (hB : b ↔ o < 24) (ho : o ≤ 24) (h_ro : ∀ q a b u, KP (ro q a b u) u) (hX : o < 24 → ∀ (i : Nat) (u : RSt), RQ ts ta u i (o + 1) → i ≤ n → pp (ro 0 0 0 u) (fun _ w => ORf ts ta n (o + 1) (X i) w)) (h1 : ∀ (low : Int32) (i : Nat) (u : RSt), 1 ≤ low.toInt → low.toInt ≤ 11 → RQ ts ta u i o → i ≤ n → pp (ro 1 low 0 u) (fun _ w => ORf ts ta n o (flw ty O low i) w)) (h : RQ ts ta u i o) (hi : i ≤ n) : pp (F_expression N ro u) (fun _ w => ORf ts ta n o (dEx ty b X O i) w) := by
  unfold F_expression B_expression_0
  refine r_m (D := oS (flw ty O 1) (dAsk ty b X) i) (fun q hq => ?_) ?_
  · have mv : ∀ m k, oWn (fun x => ¬ cS (ty x) < 1) (oN O) oE m k (.inr k) → True := fun _ _ _ => trivial
    have up : ∀ m k q2, oWn (fun x => ¬ cS (ty x) < 1) (oN O) oE m k q2 → ∀ q, (q2 = .inr q → True) → True := fun _ _ _ _ _ _ => trivial
    have go : ∀ m k, oWn (fun x => ¬ cS (ty x) < 1) (oN O) oE m k q → True := fun _ _ _ => trivial
    have key : ∀ m k, (∃ j, oWn (fun x => ¬ cS (ty x) < 1) (oN O) oE m k (.inr j) ∧ dAsk ty b X j q) ∨ (∃ p, oWn (fun x => ¬ cS (ty x) < 1) (oN O) oE m k (.inl p) ∧ q = .inl p) → oW (fun i => isOp (ty i)) (oN O) (dAsk ty b X) k q := by
      intro m
      induction m with
      | zero =>
        rintro k (⟨j, ⟨z, d1⟩, d2⟩ | ⟨p, ⟨z, d1⟩, d2⟩)
        · cases d1
          exact oW_0 (fun q => z ((isOp_iff _).mp q)) d2
        · cases d1
      | succ m ihm =>
        rintro k (⟨j, ⟨z, ⟨j1, d1, d1'⟩ | ⟨p, d1, d1'⟩⟩, d2⟩ | ⟨p, ⟨z, ⟨j1, d1, d1'⟩ | ⟨p2, d1, d1'⟩⟩, d2⟩)
        · exact oW_s ((isOp_iff _).mpr z) (Or.inl ⟨j1, d1, ihm j1 (Or.inl ⟨j, d1', d2⟩)⟩)
        · cases d1'
        · exact oW_s ((isOp_iff _).mpr z) (Or.inl ⟨j1, d1, ihm j1 (Or.inr ⟨p, d1', d2⟩)⟩)
        · cases d1'
          exact oW_s ((isOp_iff _).mpr z) (Or.inr ⟨p, d1, d2⟩)
    rcases hq with ⟨j, ⟨j1, d1, m, d2⟩ | ⟨p, d1, d2⟩, d3⟩ | ⟨p, ⟨j1, d1, m, d2⟩ | ⟨p2, d1, d2⟩, d3⟩
    · exact Or.inl ⟨j1, d1, key m j1 (Or.inl ⟨j, d2, d3⟩)⟩
    · cases d2
    · exact Or.inl ⟨j1, d1, key m j1 (Or.inr ⟨p, d2, d3⟩)⟩
    · cases d2
      exact Or.inr ⟨p, d1, d3⟩
  · refine r_bn (h1 1 i u (by decide) (by decide) h hi) (fun r w j _ hj hw => ?_) (fun _ _ => by repeat' (first | exact KP_some kp_rf | with_reducible refine KP_bn ?_ (fun _ _ => ?_) | with_reducible refine KP_if ?_ ?_ | with_reducible refine KP_rd (fun _ => ?_) | with_reducible refine KP_zr ?_ | (with_reducible refine KP_pu2 ?_ ?_; first | exact ks_sI (by decide) kp_rf | exact ks_sL kp_rf | exact ks_sA (by decide) kp_rf | exact ks_sB (by decide) kp_rf) | (with_reducible refine KP_wr2 ?_ ?_; first | exact ks_sA (by decide) kp_rf | exact ks_sB (by decide) kp_rf) | with_reducible exact h_ro _ _ _ _ | with_reducible exact sk_F_is | with_reducible exact sk_F_take | with_reducible exact sk_F_emit | with_reducible exact sk_F_wrong | with_reducible exact sk_F_cost | with_reducible exact sk_F_stuck | with_reducible exact sk_F_ends | with_reducible exact sk_F_begins | with_reducible exact sk_F_opens | with_reducible exact sk_F_has | with_reducible exact sk_F_isNumber | with_reducible exact sk_F_isNext | with_reducible exact sk_F_push | with_reducible exact sk_F_lead | with_reducible exact sk_F_here | with_reducible exact sk_F_kind | with_reducible exact sk_F_isKind | with_reducible exact sk_F_own | with_reducible exact sk_F_constant | with_reducible exact sk_F_bounded | with_reducible exact sk_F_joined | with_reducible exact sk_F_strength | with_reducible exact sk_F_leadAll | with_reducible exact sk_F_loop | with_reducible exact sk_F_label | with_reducible exact sk_F_leaves | with_reducible exact sk_F_telling | with_reducible exact sk_F_local | with_reducible exact sk_F_addSlot | with_reducible exact sk_F_addVariable | with_reducible exact sk_F_isTooWide | with_reducible exact sk_F_named | with_reducible exact sk_F_slotOf | with_reducible exact sk_F_bad | with_reducible exact sk_G_expression | with_reducible exact sk_G_spot | with_reducible exact sk_G_body | with_reducible exact sk_G_stat | (with_reducible refine sk_B_expression_119 ?_ <;> assumption) | (with_reducible refine sk_B_expression_0 ?_ <;> assumption) | (with_reducible refine sk_F_expression ?_ <;> assumption) | with_reducible exact sk_G_expression))
    refine r_if hT (t := 63) (by decide +kernel) hw hj (fun c => ?_) (fun c => r_m (fun q hq => Or.inr ⟨c, hq⟩) (r_end hw hj))
    refine r_m (fun q hq => Or.inl ⟨c, hq⟩) ?_
    have hl : j < n := hT.lt hj (by rw [c]; exact nEnd (by decide) (by decide) (by decide))
    have hn : ¬ ts j = 0 := fun q => by
      have := (hT.so hj (show ∀ p ∈ prs, (p.2 = 0 ↔ p.1 = 131) by decide +kernel)).mp q
      rw [c] at this
      exact absurd this (by decide)
    refine r_opens hB ho hn hw (fun hb w2 h2 => ?_) (fun hb w2 h2 => ?_)
    · refine r_m (D := oS X (oS (oT ty 58) X) (j + 1)) (fun q hq => Or.inl ⟨j + 1, Or.inl ⟨⟨c, hb⟩, rfl⟩, hq⟩) ?_
      have ho2 := hB.mp hb
      refine pp_rd (r_cost h2 (r_adv hT h2 hl (fun w3 h3 => rr_emit h3 ?_)))
      refine r_bn (hX ho2 _ w3 h3 hl) (fun r4 w4 j4 _ hj4 h4 => ?_) (fun _ _ => by repeat' (first | exact KP_some kp_rf | with_reducible refine KP_bn ?_ (fun _ _ => ?_) | with_reducible refine KP_if ?_ ?_ | with_reducible refine KP_rd (fun _ => ?_) | with_reducible refine KP_zr ?_ | (with_reducible refine KP_pu2 ?_ ?_; first | exact ks_sI (by decide) kp_rf | exact ks_sL kp_rf | exact ks_sA (by decide) kp_rf | exact ks_sB (by decide) kp_rf) | (with_reducible refine KP_wr2 ?_ ?_; first | exact ks_sA (by decide) kp_rf | exact ks_sB (by decide) kp_rf) | with_reducible exact h_ro _ _ _ _ | with_reducible exact sk_F_is | with_reducible exact sk_F_take | with_reducible exact sk_F_emit | with_reducible exact sk_F_wrong | with_reducible exact sk_F_cost | with_reducible exact sk_F_stuck | with_reducible exact sk_F_ends | with_reducible exact sk_F_begins | with_reducible exact sk_F_opens | with_reducible exact sk_F_has | with_reducible exact sk_F_isNumber | with_reducible exact sk_F_isNext | with_reducible exact sk_F_push | with_reducible exact sk_F_lead | with_reducible exact sk_F_here | with_reducible exact sk_F_kind | with_reducible exact sk_F_isKind | with_reducible exact sk_F_own | with_reducible exact sk_F_constant | with_reducible exact sk_F_bounded | with_reducible exact sk_F_joined | with_reducible exact sk_F_strength | with_reducible exact sk_F_leadAll | with_reducible exact sk_F_loop | with_reducible exact sk_F_label | with_reducible exact sk_F_leaves | with_reducible exact sk_F_telling | with_reducible exact sk_F_local | with_reducible exact sk_F_addSlot | with_reducible exact sk_F_addVariable | with_reducible exact sk_F_isTooWide | with_reducible exact sk_F_named | with_reducible exact sk_F_slotOf | with_reducible exact sk_F_bad | with_reducible exact sk_G_expression | with_reducible exact sk_G_spot | with_reducible exact sk_G_body | with_reducible exact sk_G_stat | (with_reducible refine sk_B_expression_119 ?_ <;> assumption) | (with_reducible refine sk_B_expression_0 ?_ <;> assumption) | (with_reducible refine sk_F_expression ?_ <;> assumption) | with_reducible exact sk_G_expression))
      refine rr_emit h4 (r_lead h4 ?_)
      refine r_bn (r_take hT (by decide +kernel) (nEnd (by decide) (by decide) (by decide)) h4 hj4) (fun r5 w5 j5 _ hj5 h5 => ?_) (fun _ _ => by repeat' (first | exact KP_some kp_rf | with_reducible refine KP_bn ?_ (fun _ _ => ?_) | with_reducible refine KP_if ?_ ?_ | with_reducible refine KP_rd (fun _ => ?_) | with_reducible refine KP_zr ?_ | (with_reducible refine KP_pu2 ?_ ?_; first | exact ks_sI (by decide) kp_rf | exact ks_sL kp_rf | exact ks_sA (by decide) kp_rf | exact ks_sB (by decide) kp_rf) | (with_reducible refine KP_wr2 ?_ ?_; first | exact ks_sA (by decide) kp_rf | exact ks_sB (by decide) kp_rf) | with_reducible exact h_ro _ _ _ _ | with_reducible exact sk_F_is | with_reducible exact sk_F_take | with_reducible exact sk_F_emit | with_reducible exact sk_F_wrong | with_reducible exact sk_F_cost | with_reducible exact sk_F_stuck | with_reducible exact sk_F_ends | with_reducible exact sk_F_begins | with_reducible exact sk_F_opens | with_reducible exact sk_F_has | with_reducible exact sk_F_isNumber | with_reducible exact sk_F_isNext | with_reducible exact sk_F_push | with_reducible exact sk_F_lead | with_reducible exact sk_F_here | with_reducible exact sk_F_kind | with_reducible exact sk_F_isKind | with_reducible exact sk_F_own | with_reducible exact sk_F_constant | with_reducible exact sk_F_bounded | with_reducible exact sk_F_joined | with_reducible exact sk_F_strength | with_reducible exact sk_F_leadAll | with_reducible exact sk_F_loop | with_reducible exact sk_F_label | with_reducible exact sk_F_leaves | with_reducible exact sk_F_telling | with_reducible exact sk_F_local | with_reducible exact sk_F_addSlot | with_reducible exact sk_F_addVariable | with_reducible exact sk_F_isTooWide | with_reducible exact sk_F_named | with_reducible exact sk_F_slotOf | with_reducible exact sk_F_bad | with_reducible exact sk_G_expression | with_reducible exact sk_G_spot | with_reducible exact sk_G_body | with_reducible exact sk_G_stat | (with_reducible refine sk_B_expression_119 ?_ <;> assumption) | (with_reducible refine sk_B_expression_0 ?_ <;> assumption) | (with_reducible refine sk_F_expression ?_ <;> assumption) | with_reducible exact sk_G_expression))
      refine r_m (D := oS X oE j5) (fun q hq => ?_) ?_
      · rcases hq with ⟨j, d1, d2⟩ | ⟨p, d1, d2⟩
        · cases d2; exact d1
        · cases d2; exact d1
      · refine r_bn (hX ho2 _ w5 h5 hj5) (fun r6 w6 j6 _ hj6 h6 => ?_) (fun _ _ => by repeat' (first | exact KP_some kp_rf | with_reducible refine KP_bn ?_ (fun _ _ => ?_) | with_reducible refine KP_if ?_ ?_ | with_reducible refine KP_rd (fun _ => ?_) | with_reducible refine KP_zr ?_ | (with_reducible refine KP_pu2 ?_ ?_; first | exact ks_sI (by decide) kp_rf | exact ks_sL kp_rf | exact ks_sA (by decide) kp_rf | exact ks_sB (by decide) kp_rf) | (with_reducible refine KP_wr2 ?_ ?_; first | exact ks_sA (by decide) kp_rf | exact ks_sB (by decide) kp_rf) | with_reducible exact h_ro _ _ _ _ | with_reducible exact sk_F_is | with_reducible exact sk_F_take | with_reducible exact sk_F_emit | with_reducible exact sk_F_wrong | with_reducible exact sk_F_cost | with_reducible exact sk_F_stuck | with_reducible exact sk_F_ends | with_reducible exact sk_F_begins | with_reducible exact sk_F_opens | with_reducible exact sk_F_has | with_reducible exact sk_F_isNumber | with_reducible exact sk_F_isNext | with_reducible exact sk_F_push | with_reducible exact sk_F_lead | with_reducible exact sk_F_here | with_reducible exact sk_F_kind | with_reducible exact sk_F_isKind | with_reducible exact sk_F_own | with_reducible exact sk_F_constant | with_reducible exact sk_F_bounded | with_reducible exact sk_F_joined | with_reducible exact sk_F_strength | with_reducible exact sk_F_leadAll | with_reducible exact sk_F_loop | with_reducible exact sk_F_label | with_reducible exact sk_F_leaves | with_reducible exact sk_F_telling | with_reducible exact sk_F_local | with_reducible exact sk_F_addSlot | with_reducible exact sk_F_addVariable | with_reducible exact sk_F_isTooWide | with_reducible exact sk_F_named | with_reducible exact sk_F_slotOf | with_reducible exact sk_F_bad | with_reducible exact sk_G_expression | with_reducible exact sk_G_spot | with_reducible exact sk_G_body | with_reducible exact sk_G_stat | (with_reducible refine sk_B_expression_119 ?_ <;> assumption) | (with_reducible refine sk_B_expression_0 ?_ <;> assumption) | (with_reducible refine sk_F_expression ?_ <;> assumption) | with_reducible exact sk_G_expression))
        refine r_lead h6 (r_dec h6 (by omega) (fun w7 h7 => r_c h7 (by decide) (fun w8 h8 => ?_)))
        unfold B_expression_119
        exact pp_if (fun _ => r_end h8 hj6) (fun _ => pp_if (fun _ => r_end h8 hj6) (fun _ => r_end h8 hj6))
    · exact r_bad (by repeat' (first | exact KP_some kp_rf | with_reducible refine KP_bn ?_ (fun _ _ => ?_) | with_reducible refine KP_if ?_ ?_ | with_reducible refine KP_rd (fun _ => ?_) | with_reducible refine KP_zr ?_ | (with_reducible refine KP_pu2 ?_ ?_; first | exact ks_sI (by decide) kp_rf | exact ks_sL kp_rf | exact ks_sA (by decide) kp_rf | exact ks_sB (by decide) kp_rf) | (with_reducible refine KP_wr2 ?_ ?_; first | exact ks_sA (by decide) kp_rf | exact ks_sB (by decide) kp_rf) | with_reducible exact h_ro _ _ _ _ | with_reducible exact sk_F_is | with_reducible exact sk_F_take | with_reducible exact sk_F_emit | with_reducible exact sk_F_wrong | with_reducible exact sk_F_cost | with_reducible exact sk_F_stuck | with_reducible exact sk_F_ends | with_reducible exact sk_F_begins | with_reducible exact sk_F_opens | with_reducible exact sk_F_has | with_reducible exact sk_F_isNumber | with_reducible exact sk_F_isNext | with_reducible exact sk_F_push | with_reducible exact sk_F_lead | with_reducible exact sk_F_here | with_reducible exact sk_F_kind | with_reducible exact sk_F_isKind | with_reducible exact sk_F_own | with_reducible exact sk_F_constant | with_reducible exact sk_F_bounded | with_reducible exact sk_F_joined | with_reducible exact sk_F_strength | with_reducible exact sk_F_leadAll | with_reducible exact sk_F_loop | with_reducible exact sk_F_label | with_reducible exact sk_F_leaves | with_reducible exact sk_F_telling | with_reducible exact sk_F_local | with_reducible exact sk_F_addSlot | with_reducible exact sk_F_addVariable | with_reducible exact sk_F_isTooWide | with_reducible exact sk_F_named | with_reducible exact sk_F_slotOf | with_reducible exact sk_F_bad | with_reducible exact sk_G_expression | with_reducible exact sk_G_spot | with_reducible exact sk_G_body | with_reducible exact sk_G_stat | (with_reducible refine sk_B_expression_119 ?_ <;> assumption) | (with_reducible refine sk_B_expression_0 ?_ <;> assumption) | (with_reducible refine sk_F_expression ?_ <;> assumption) | with_reducible exact sk_G_expression)) h2 hj (Or.inr ⟨j, Or.inr ⟨fun z => hb z.2, rfl⟩, rfl⟩)
end RGrp
