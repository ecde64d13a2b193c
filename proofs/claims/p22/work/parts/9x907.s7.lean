/-! The reference's first pass: operands; the group by levels. -/
section ROpd
variable {ty ts ta : Nat → Int32} {N n i o : Nat} {u : RSt} {b : Prop} {X O : Rl} {ro : Nat → Int32 → Int32 → RSt → Option (Int32 × RSt)}
theorem r_lst {α : Type} {D : Sum Nat Nat → Prop} {Y : Option (α × RSt)} {f : α → Int32} (hY : pp Y (fun _ w => ORf ts ta n o D w)) : pp (bn Y fun r w => some (f r, w)) (fun _ w => ORf ts ta n o D w) := pp_bn (pp_m hY (fun _ _ hw => pp_some hw))
theorem r_operand (hT : RT ty ts n) (hB : b ↔ o < 24) (ho : o ≤ 24) (h_ro : ∀ q a b u, KP (ro q a b u) u)
    (hX : o < 24 → ∀ (i : Nat) (u : RSt), RQ ts ta u i (o + 1) → i ≤ n → pp (ro 0 0 0 u) (fun _ w => ORf ts ta n (o + 1) (X i) w))
    (h3 : ∀ (a : Int32) (i : Nat) (u : RSt), RQ ts ta u i o → i < n → ¬ ts i = 0 → pp (ro 3 a 0 u) (fun _ w => ORf ts ta n o (oS (oPo ty b) O i) w))
    (h4 : ∀ (i : Nat) (u : RSt), RQ ts ta u i o → i < n → ¬ ts i = 0 → pp (ro 4 0 0 u) (fun _ w => ORf ts ta n o (oS (oPo ty b) (oS (oKd ty) (oS (oT ty 41) O)) i) w))
    (h5 : ∀ (i : Nat) (u : RSt), RQ ts ta u i o → i < n → pp (ro 5 0 0 u) (fun _ w => ORf ts ta n o (dArg ty b X (i + 1)) w))
    (h6 : ∀ (i : Nat) (u : RSt), RQ ts ta u i o → i + 2 < n → ¬ isEnd (ty (i + 2)) → pp (ro 6 0 0 u) (fun _ w => ORf ts ta n o (dIdx ty b X (i + 3)) w))
    (h8 : ∀ (a : Int32) (i : Nat) (u : RSt), RQ ts ta u i o → i ≤ n → ty i = 128 → pp (ro 8 a 0 u) (fun _ w => ORf ts ta n o (oN (oS (dIdx ty b X) (dBit ty)) i) w))
    (h : RQ ts ta u i o) (hi : i ≤ n) : pp (F_operand N ro u) (fun _ w => ORf ts ta n o (dOpd ty b X O i) w) := by
  have hb := hT.2.2
  have lt : ∀ {t : Int32}, ¬ isEnd t → ty i = t → i < n := fun ht e => hT.lt hi (by rw [e]; exact ht)
  have n0 : ∀ {t : Int32}, ¬ t = 131 → ty i = t → ¬ ts i = 0 := fun ht e q => by
    have := (hT.so hi (show ∀ p ∈ prs, (p.2 = 0 ↔ p.1 = 131) by decide +kernel)).mp q
    exact ht (e.symm.trans this)
  unfold F_operand B_operand_0
  rw [if_pos h.2.2.2.1]
  refine r_ts h ?_
  have sg : (ty i = 45 ∨ ty i = 126 ∨ ty i = 33) → pp (B_operand_40 N ro (ts i) u) (fun _ w => ORf ts ta n o (dOpd ty b X O i) w) := by
    intro c
    unfold B_operand_40
    refine r_m (fun q hq => Or.inl ⟨c, hq⟩) (r_lst (h3 _ i u h ?_ ?_))
    · rcases c with c | c | c <;> exact lt (nEnd (by decide) (by decide) (by decide)) c
    · rcases c with c | c | c <;> exact n0 (by decide) c
  have s45 := hT.so hi (show ∀ p ∈ prs, (p.2 = 241 ↔ p.1 = 45) by decide +kernel)
  have s126 := hT.so hi (show ∀ p ∈ prs, (p.2 = 245 ↔ p.1 = 126) by decide +kernel)
  have s33 := hT.so hi (show ∀ p ∈ prs, (p.2 = 246 ↔ p.1 = 33) by decide +kernel)
  have s40 := hT.so hi (show ∀ p ∈ prs, (p.2 = 223 ↔ p.1 = 40) by decide +kernel)
  have s129 : (ts i = 2 ∨ ts i = 3) ↔ ty i = 129 := (show ∀ p ∈ prs, ((p.2 = 2 ∨ p.2 = 3) ↔ p.1 = 129) by decide +kernel) (ty i, ts i) (hT.1 i hi)
  have s130 := hT.so hi (show ∀ p ∈ prs, (p.2 = 4 ↔ p.1 = 130) by decide +kernel)
  have s29 := hT.so hi (show ∀ p ∈ prs, (p.2 = 128 ↔ p.1 = 29) by decide +kernel)
  have s128 := hT.so hi (show ∀ p ∈ prs, (p.2 = 1 ↔ p.1 = 128) by decide +kernel)
  refine pp_if (fun c => sg (Or.inl (s45.mp c))) (fun n1 => pp_if (fun c => sg (Or.inr (Or.inl (s126.mp c)))) (fun n2 => pp_if (fun c => sg (Or.inr (Or.inr (s33.mp c)))) (fun n3 => ?_)))
  have m1 : ¬ (ty i = 45 ∨ ty i = 126 ∨ ty i = 33) := fun z => z.elim (fun q => n1 (s45.mpr q)) (fun z => z.elim (fun q => n2 (s126.mpr q)) (fun q => n3 (s33.mpr q)))
  refine pp_if (fun c => ?_) (fun n4 => ?_)
  · have c40 := s40.mp c
    have hl := lt (nEnd (by decide) (by decide) (by decide)) c40
    refine r_isKind hT h hl (fun k1 => ?_) (fun k1 => ?_)
    · rw [if_neg (by decide)]
      refine r_m (D := oS (oPo ty b) (oS (oKd ty) (oS (oT ty 41) O)) i) (fun q hq => Or.inr ⟨m1, Or.inl ⟨c40, ?_⟩⟩) (r_lst (h4 i u h hl (n0 (by decide) c40)))
      rcases hq with ⟨j, d1, d2⟩ | ⟨p, d1, d2⟩
      · rcases d1 with ⟨z1, z2⟩ | ⟨z1, z2⟩
        · cases z2
          refine Or.inl ⟨i + 1, Or.inl ⟨⟨c40, z1.2⟩, rfl⟩, Or.inl ⟨k1, ?_⟩⟩
          rcases d2 with ⟨j2, d3, d4⟩ | ⟨p, d3, d4⟩
          · rcases d3 with ⟨-, z3⟩ | ⟨z3, -⟩
            · cases z3; exact d4
            · exact absurd k1 z3
          · rcases d3 with ⟨-, z3⟩ | ⟨z3, -⟩
            · cases z3
            · exact absurd k1 z3
        · cases z2
      · rcases d1 with ⟨z1, z2⟩ | ⟨z1, z2⟩
        · cases z2
        · cases z2
          exact Or.inr ⟨i, Or.inr ⟨fun z => z1 ⟨rfl, z.2⟩, rfl⟩, d2⟩
    · rw [if_pos rfl]
      unfold B_operand_71
      rw [if_pos c]
      refine r_m (D := oS (oP ty b 40) (oS X (oT ty 41)) i) (fun q hq => Or.inr ⟨m1, Or.inl ⟨c40, ?_⟩⟩) ?_
      · rcases hq with ⟨j, d1, d2⟩ | ⟨p, d1, d2⟩
        · rcases d1 with ⟨z1, z2⟩ | ⟨z1, z2⟩
          · cases z2
            exact Or.inl ⟨i + 1, Or.inl ⟨z1, rfl⟩, Or.inr ⟨k1, d2⟩⟩
          · cases z2
        · exact Or.inr ⟨p, d1, d2⟩
      · refine r_bn (r_begins hT (by decide +kernel) (nEnd (by decide) (by decide) (by decide)) (by decide) hB ho h hi) (fun _ w2 j d hj h2 => ?_) (fun _ _ => by repeat' (first | exact KP_some kp_rf | with_reducible refine KP_bn ?_ (fun _ _ => ?_) | with_reducible refine KP_if ?_ ?_ | with_reducible refine KP_rd (fun _ => ?_) | with_reducible refine KP_zr ?_ | (with_reducible refine KP_pu2 ?_ ?_; first | exact ks_sI (by decide) kp_rf | exact ks_sL kp_rf | exact ks_sA (by decide) kp_rf | exact ks_sB (by decide) kp_rf) | (with_reducible refine KP_wr2 ?_ ?_; first | exact ks_sA (by decide) kp_rf | exact ks_sB (by decide) kp_rf) | with_reducible exact h_ro _ _ _ _ | with_reducible exact sk_F_is | with_reducible exact sk_F_take | with_reducible exact sk_F_emit | with_reducible exact sk_F_wrong | with_reducible exact sk_F_cost | with_reducible exact sk_F_stuck | with_reducible exact sk_F_ends | with_reducible exact sk_F_begins | with_reducible exact sk_F_opens | with_reducible exact sk_F_has | with_reducible exact sk_F_isNumber | with_reducible exact sk_F_isNext | with_reducible exact sk_F_push | with_reducible exact sk_F_lead | with_reducible exact sk_F_here | with_reducible exact sk_F_kind | with_reducible exact sk_F_isKind | with_reducible exact sk_F_own | with_reducible exact sk_F_constant | with_reducible exact sk_F_bounded | with_reducible exact sk_F_joined | with_reducible exact sk_F_strength | with_reducible exact sk_F_leadAll | with_reducible exact sk_F_loop | with_reducible exact sk_F_label | with_reducible exact sk_F_leaves | with_reducible exact sk_F_telling | with_reducible exact sk_F_local | with_reducible exact sk_F_addSlot | with_reducible exact sk_F_addVariable | with_reducible exact sk_F_isTooWide | with_reducible exact sk_F_named | with_reducible exact sk_F_slotOf | with_reducible exact sk_F_bad | with_reducible exact sk_G_expression | with_reducible exact sk_G_spot | with_reducible exact sk_G_body | with_reducible exact sk_G_stat | (with_reducible refine sk_B_operand_40 ?_ <;> assumption) | (with_reducible refine sk_B_operand_141 ?_ <;> assumption) | (with_reducible refine sk_B_operand_130 ?_ <;> assumption) | (with_reducible refine sk_B_operand_366 ?_ <;> assumption) | (with_reducible refine sk_B_operand_329 ?_ <;> assumption) | (with_reducible refine sk_B_operand_71 ?_ <;> assumption) | (with_reducible refine sk_B_operand_0 ?_ <;> assumption) | (with_reducible refine sk_F_operand ?_ <;> assumption)))
        have ho2 : o < 24 := hB.mp (by rcases d with ⟨q, -⟩ | ⟨-, q⟩; exact q.2; cases q)
        refine r_bn (hX ho2 _ w2 h2 hj) (fun r3 w3 j3 _ hj3 h3 => ?_) (fun _ _ => by repeat' (first | exact KP_some kp_rf | with_reducible refine KP_bn ?_ (fun _ _ => ?_) | with_reducible refine KP_if ?_ ?_ | with_reducible refine KP_rd (fun _ => ?_) | with_reducible refine KP_zr ?_ | (with_reducible refine KP_pu2 ?_ ?_; first | exact ks_sI (by decide) kp_rf | exact ks_sL kp_rf | exact ks_sA (by decide) kp_rf | exact ks_sB (by decide) kp_rf) | (with_reducible refine KP_wr2 ?_ ?_; first | exact ks_sA (by decide) kp_rf | exact ks_sB (by decide) kp_rf) | with_reducible exact h_ro _ _ _ _ | with_reducible exact sk_F_is | with_reducible exact sk_F_take | with_reducible exact sk_F_emit | with_reducible exact sk_F_wrong | with_reducible exact sk_F_cost | with_reducible exact sk_F_stuck | with_reducible exact sk_F_ends | with_reducible exact sk_F_begins | with_reducible exact sk_F_opens | with_reducible exact sk_F_has | with_reducible exact sk_F_isNumber | with_reducible exact sk_F_isNext | with_reducible exact sk_F_push | with_reducible exact sk_F_lead | with_reducible exact sk_F_here | with_reducible exact sk_F_kind | with_reducible exact sk_F_isKind | with_reducible exact sk_F_own | with_reducible exact sk_F_constant | with_reducible exact sk_F_bounded | with_reducible exact sk_F_joined | with_reducible exact sk_F_strength | with_reducible exact sk_F_leadAll | with_reducible exact sk_F_loop | with_reducible exact sk_F_label | with_reducible exact sk_F_leaves | with_reducible exact sk_F_telling | with_reducible exact sk_F_local | with_reducible exact sk_F_addSlot | with_reducible exact sk_F_addVariable | with_reducible exact sk_F_isTooWide | with_reducible exact sk_F_named | with_reducible exact sk_F_slotOf | with_reducible exact sk_F_bad | with_reducible exact sk_G_expression | with_reducible exact sk_G_spot | with_reducible exact sk_G_body | with_reducible exact sk_G_stat | (with_reducible refine sk_B_operand_40 ?_ <;> assumption) | (with_reducible refine sk_B_operand_141 ?_ <;> assumption) | (with_reducible refine sk_B_operand_130 ?_ <;> assumption) | (with_reducible refine sk_B_operand_366 ?_ <;> assumption) | (with_reducible refine sk_B_operand_329 ?_ <;> assumption) | (with_reducible refine sk_B_operand_71 ?_ <;> assumption) | (with_reducible refine sk_B_operand_0 ?_ <;> assumption) | (with_reducible refine sk_F_operand ?_ <;> assumption)))
        refine r_m (D := oS (oT ty 41) oE j3) (fun q hq => ?_) ?_
        · rcases hq with ⟨j, d1, d2⟩ | ⟨p, d1, d2⟩
          · cases d2; exact d1
          · cases d2; exact d1
        · refine r_bn (r_ends hT (by decide +kernel) (nEnd (by decide) (by decide) (by decide)) (by omega) h3 hj3) (fun r4 w4 j4 _ hj4 h4 => ?_) (fun _ _ => by repeat' (first | exact KP_some kp_rf | with_reducible refine KP_bn ?_ (fun _ _ => ?_) | with_reducible refine KP_if ?_ ?_ | with_reducible refine KP_rd (fun _ => ?_) | with_reducible refine KP_zr ?_ | (with_reducible refine KP_pu2 ?_ ?_; first | exact ks_sI (by decide) kp_rf | exact ks_sL kp_rf | exact ks_sA (by decide) kp_rf | exact ks_sB (by decide) kp_rf) | (with_reducible refine KP_wr2 ?_ ?_; first | exact ks_sA (by decide) kp_rf | exact ks_sB (by decide) kp_rf) | with_reducible exact h_ro _ _ _ _ | with_reducible exact sk_F_is | with_reducible exact sk_F_take | with_reducible exact sk_F_emit | with_reducible exact sk_F_wrong | with_reducible exact sk_F_cost | with_reducible exact sk_F_stuck | with_reducible exact sk_F_ends | with_reducible exact sk_F_begins | with_reducible exact sk_F_opens | with_reducible exact sk_F_has | with_reducible exact sk_F_isNumber | with_reducible exact sk_F_isNext | with_reducible exact sk_F_push | with_reducible exact sk_F_lead | with_reducible exact sk_F_here | with_reducible exact sk_F_kind | with_reducible exact sk_F_isKind | with_reducible exact sk_F_own | with_reducible exact sk_F_constant | with_reducible exact sk_F_bounded | with_reducible exact sk_F_joined | with_reducible exact sk_F_strength | with_reducible exact sk_F_leadAll | with_reducible exact sk_F_loop | with_reducible exact sk_F_label | with_reducible exact sk_F_leaves | with_reducible exact sk_F_telling | with_reducible exact sk_F_local | with_reducible exact sk_F_addSlot | with_reducible exact sk_F_addVariable | with_reducible exact sk_F_isTooWide | with_reducible exact sk_F_named | with_reducible exact sk_F_slotOf | with_reducible exact sk_F_bad | with_reducible exact sk_G_expression | with_reducible exact sk_G_spot | with_reducible exact sk_G_body | with_reducible exact sk_G_stat | (with_reducible refine sk_B_operand_40 ?_ <;> assumption) | (with_reducible refine sk_B_operand_141 ?_ <;> assumption) | (with_reducible refine sk_B_operand_130 ?_ <;> assumption) | (with_reducible refine sk_B_operand_366 ?_ <;> assumption) | (with_reducible refine sk_B_operand_329 ?_ <;> assumption) | (with_reducible refine sk_B_operand_71 ?_ <;> assumption) | (with_reducible refine sk_B_operand_0 ?_ <;> assumption) | (with_reducible refine sk_F_operand ?_ <;> assumption)))
          exact pp_if (fun _ => r_c h4 (by decide) (fun w5 h5 => r_end h5 hj4)) (fun _ => r_c h4 (by decide) (fun w5 h5 => r_end h5 hj4))
  · have m2 : ¬ ty i = 40 := fun q => n4 (s40.mpr q)
    unfold B_operand_71
    rw [if_neg n4]
    have h130 : (ty i = 129 ∨ ty i = 130) → pp (B_operand_130 N ro (ts i) u) (fun _ w => ORf ts ta n o (dOpd ty b X O i) w) := by
      intro c
      have hl : i < n := by rcases c with c | c <;> exact lt (nEnd (by decide) (by decide) (by decide)) c
      have h141 : ∀ s : Int32, pp (B_operand_141 N ro s u) (fun _ w => ORf ts ta n o (dOpd ty b X O i) w) := by
        intro s
        unfold B_operand_141
        refine r_m (D := oE (i + 1)) (fun q hq => Or.inr ⟨m1, Or.inr ⟨m2, Or.inr ⟨?_, Or.inl ⟨Or.inr c, hq⟩⟩⟩⟩) ?_
        · show ¬ ty i = 128
          rcases c with c | c <;> (rw [c]; decide)
        · refine pp_rd (r_wrong h (pp_rd (r_cost h (pp_rd (rr_push h (r_c h (by decide) (fun w2 h2 => pp_rd (r_l h2 (fun w3 h3 => r_adv hT h3 hl (fun w4 h4 => pp_rd ?_))))))))))
          exact pp_if (fun _ => r_end h4 hl) (fun _ => r_end h4 hl)
      unfold B_operand_130
      exact pp_if (fun _ => h141 _) (fun _ => h141 _)
    refine pp_if (fun c => h130 (Or.inl (s129.mp (Or.inl c)))) (fun n5 => pp_if (fun c => h130 (Or.inl (s129.mp (Or.inr c)))) (fun n6 => pp_if (fun c => h130 (Or.inr (s130.mp c))) (fun n7 => ?_)))
    refine r_c h (by decide) (fun w hw => ?_)
    refine pp_if (fun c => ?_) (fun n8 => ?_)
    · have c29 := s29.mp c
      have hl := lt (nEnd (by decide) (by decide) (by decide)) c29
      refine r_m (D := oE (i + 1)) (fun q hq => Or.inr ⟨m1, Or.inr ⟨m2, Or.inr ⟨(show ¬ ty i = 128 by rw [c29]; decide), Or.inl ⟨Or.inl c29, hq⟩⟩⟩⟩) ?_
      exact pp_rd (r_cost hw (rr_emit hw (r_adv hT hw hl (fun w2 h2 => r_end h2 hl))))
    refine pp_if (fun c => ?_) (fun n9 => ?_)
    · have c128 := s128.mp c
      have hl := lt (nEnd (by decide) (by decide) (by decide)) c128
      have hne : ¬ isEnd (ty i) := by rw [c128]; exact nEnd (by decide) (by decide) (by decide)
      have up : ∀ q, dNop ty b X i q → dOpd ty b X O i q := fun q hq => Or.inr ⟨m1, Or.inr ⟨m2, Or.inl ⟨c128, hq⟩⟩⟩
      have h329 : ¬ ty (i + 1) = 40 → ¬ (ty (i + 1) = 46 ∧ ty (i + 1 + 1) = 128) → pp (B_operand_329 N ro w) (fun _ w => ORf ts ta n o (dOpd ty b X O i) w) := by
        intro k1 k2
        unfold B_operand_329
        refine r_m (D := oS (oN (oS (dIdx ty b X) (dBit ty))) oE i) (fun q hq => up q (Or.inr ⟨k1, Or.inr ⟨k2, ?_⟩⟩)) ?_
        · rcases hq with ⟨j, d1, d2⟩ | ⟨p, d1, d2⟩
          · cases d2; exact d1
          · cases d2; exact d1
        · refine r_bn (h8 0 i w hw hi c128) (fun r2 w2 j2 _ hj2 h2 => ?_) (fun _ _ => by repeat' (first | exact KP_some kp_rf | with_reducible refine KP_bn ?_ (fun _ _ => ?_) | with_reducible refine KP_if ?_ ?_ | with_reducible refine KP_rd (fun _ => ?_) | with_reducible refine KP_zr ?_ | (with_reducible refine KP_pu2 ?_ ?_; first | exact ks_sI (by decide) kp_rf | exact ks_sL kp_rf | exact ks_sA (by decide) kp_rf | exact ks_sB (by decide) kp_rf) | (with_reducible refine KP_wr2 ?_ ?_; first | exact ks_sA (by decide) kp_rf | exact ks_sB (by decide) kp_rf) | with_reducible exact h_ro _ _ _ _ | with_reducible exact sk_F_is | with_reducible exact sk_F_take | with_reducible exact sk_F_emit | with_reducible exact sk_F_wrong | with_reducible exact sk_F_cost | with_reducible exact sk_F_stuck | with_reducible exact sk_F_ends | with_reducible exact sk_F_begins | with_reducible exact sk_F_opens | with_reducible exact sk_F_has | with_reducible exact sk_F_isNumber | with_reducible exact sk_F_isNext | with_reducible exact sk_F_push | with_reducible exact sk_F_lead | with_reducible exact sk_F_here | with_reducible exact sk_F_kind | with_reducible exact sk_F_isKind | with_reducible exact sk_F_own | with_reducible exact sk_F_constant | with_reducible exact sk_F_bounded | with_reducible exact sk_F_joined | with_reducible exact sk_F_strength | with_reducible exact sk_F_leadAll | with_reducible exact sk_F_loop | with_reducible exact sk_F_label | with_reducible exact sk_F_leaves | with_reducible exact sk_F_telling | with_reducible exact sk_F_local | with_reducible exact sk_F_addSlot | with_reducible exact sk_F_addVariable | with_reducible exact sk_F_isTooWide | with_reducible exact sk_F_named | with_reducible exact sk_F_slotOf | with_reducible exact sk_F_bad | with_reducible exact sk_G_expression | with_reducible exact sk_G_spot | with_reducible exact sk_G_body | with_reducible exact sk_G_stat | (with_reducible refine sk_B_operand_40 ?_ <;> assumption) | (with_reducible refine sk_B_operand_141 ?_ <;> assumption) | (with_reducible refine sk_B_operand_130 ?_ <;> assumption) | (with_reducible refine sk_B_operand_366 ?_ <;> assumption) | (with_reducible refine sk_B_operand_329 ?_ <;> assumption) | (with_reducible refine sk_B_operand_71 ?_ <;> assumption) | (with_reducible refine sk_B_operand_0 ?_ <;> assumption) | (with_reducible refine sk_F_operand ?_ <;> assumption)))
          have h366 : pp (B_operand_366 N ro w2) (fun _ w => ORf ts ta n o (oE j2) w) := by
            unfold B_operand_366
            exact r_c h2 (by decide) (fun w3 h3 => pp_if (fun _ => r_end h3 hj2) (fun _ => r_end h3 hj2))
          exact rr_emit h2 (pp_if (fun _ => h366) (fun _ => rr_emit h2 h366))
      refine r_isNext hT (t := 40) (by decide +kernel) hw hl hne (fun k1 => ?_) (fun k1 => ?_)
      · rw [if_neg (by decide)]
        exact r_m (fun q hq => up q (Or.inl ⟨k1, hq⟩)) (r_lst (h5 i w hw hl))
      · rw [if_pos rfl]
        refine r_isNext hT (t := 46) (by decide +kernel) hw hl hne (fun k2 => ?_) (fun k2 => ?_)
        · rw [if_neg (by decide)]
          have hl2 : i + 1 < n := hT.lt hl (by rw [k2]; exact nEnd (by decide) (by decide) (by decide))
          have e2 : (w.1 65 + 2).toNatClampNeg = i + 2 := by
            have h5 := hw.2.2.2.2.1
            have e2 : (2 : Int32).toInt = 2 := by decide
            have : (w.1 65 + 2).toInt = (i : Int) + 2 := by rw [tI_add (by omega) (by omega), e2, h5]
            show (w.1 65 + 2).toInt.toNat = i + 2
            omega
          refine pp_rd ?_
          rw [hw.1, e2]
          have s2 := hT.so (i := i + 2) hl2 (show ∀ p ∈ prs, (p.2 = 1 ↔ p.1 = 128) by decide +kernel)
          refine pp_if (fun c3 => ?_) (fun c3 => h329 k1 (fun z => c3 (s2.mpr z.2)))
          have c128' := s2.mp c3
          have hl3 : i + 2 < n := hT.lt hl2 (by rw [c128']; exact nEnd (by decide) (by decide) (by decide))
          exact r_m (fun q hq => up q (Or.inr ⟨k1, Or.inl ⟨⟨k2, c128'⟩, hq⟩⟩)) (r_lst (h6 i w hw hl3 (by rw [c128']; exact nEnd (by decide) (by decide) (by decide))))
        · rw [if_pos rfl]
          exact h329 k1 (fun z => k2 z.1)
    · refine r_m (D := oR i) (fun q hq => Or.inr ⟨m1, Or.inr ⟨m2, Or.inr ⟨fun q => n9 (s128.mpr q), Or.inr ⟨?_, hq⟩⟩⟩⟩) (r_lst (f := fun _ => 3) (r_stuck hw hi))
      rintro (z | z | z)
      · exact n8 (s29.mpr z)
      · rcases s129.mpr z with z | z
        · exact n5 z
        · exact n6 z
      · exact n7 (s130.mpr z)
/-- what the group does at a depth, where o stands open -/
def RLv (ty ts ta : Nat → Int32) (N n d o L : Nat) : Prop :=
  (∀ (i : Nat) (u : RSt), RQ ts ta u i o → i ≤ n → pp (FE_ N d 0 0 0 u) (fun _ w => ORf ts ta n o (dX ty (L + 1) i) w)) ∧
  (∀ (low : Int32) (i : Nat) (u : RSt), 1 ≤ low.toInt → low.toInt ≤ 11 → RQ ts ta u i o → i ≤ n → pp (FE_ N d 1 low 0 u) (fun _ w => ORf ts ta n o (flw ty (dO ty (L + 1)) low i) w)) ∧
  (∀ (i : Nat) (u : RSt), RQ ts ta u i o → i ≤ n → pp (FE_ N d 2 0 0 u) (fun _ w => ORf ts ta n o (dO ty (L + 1) i) w)) ∧
  (∀ (a : Int32) (i : Nat) (u : RSt), RQ ts ta u i o → i < n → ¬ ts i = 0 → pp (FE_ N d 3 a 0 u) (fun _ w => ORf ts ta n o (oS (oPo ty (0 < L)) (dO ty L) i) w)) ∧
  (∀ (i : Nat) (u : RSt), RQ ts ta u i o → i < n → ¬ ts i = 0 → pp (FE_ N d 4 0 0 u) (fun _ w => ORf ts ta n o (oS (oPo ty (0 < L)) (oS (oKd ty) (oS (oT ty 41) (dO ty L))) i) w)) ∧
  (∀ (i : Nat) (u : RSt), RQ ts ta u i o → i < n → pp (FE_ N d 5 0 0 u) (fun _ w => ORf ts ta n o (dArg ty (0 < L) (dX ty L) (i + 1)) w)) ∧
  (∀ (i : Nat) (u : RSt), RQ ts ta u i o → i + 2 < n → ¬ isEnd (ty (i + 2)) → pp (FE_ N d 6 0 0 u) (fun _ w => ORf ts ta n o (dIdx ty (0 < L) (dX ty L) (i + 3)) w)) ∧
  (∀ (a b' : Int32) (i : Nat) (u : RSt), RQ ts ta u i o → i ≤ n → pp (FE_ N d 7 a b' u) (fun _ w => ORf ts ta n o (oS (oP ty (0 < L) 91) (oS (dX ty L) (oT ty 93)) i) w)) ∧
  (∀ (a : Int32) (i : Nat) (u : RSt), RQ ts ta u i o → i ≤ n → ty i = 128 → pp (FE_ N d 8 a 0 u) (fun _ w => ORf ts ta n o (oN (oS (dIdx ty (0 < L) (dX ty L)) (dBit ty)) i) w))
theorem r_EO (hT : RT ty ts n) : ∀ (L o : Nat), o + L = 24 → ∀ d, RLv ty ts ta N n d o L := by
  intro L
  induction L with
  | zero =>
    intro o ho d
    have ho2 : o ≤ 24 := by omega
    have hB : 0 < 0 ↔ o < 24 := by omega
    have hF : ∀ {P : Prop}, o < 24 → P := fun h => absurd h (by omega)
    induction d with
    | zero => exact ⟨fun _ _ _ _ => pp_none, fun _ _ _ _ _ _ _ => pp_none, fun _ _ _ _ => pp_none, fun _ _ _ _ _ _ => pp_none, fun _ _ _ _ _ => pp_none, fun _ _ _ _ => pp_none, fun _ _ _ _ _ => pp_none, fun _ _ _ _ _ _ => pp_none, fun _ _ _ _ _ _ => pp_none⟩
    | succ d ih =>
      obtain ⟨i0, i1, i2, i3, i4, i5, i6, i7, i8⟩ := ih
      have h_ro : ∀ q a b u, KP (FE_ N d q a b u) u := sk_FE_ d
      refine ⟨fun i u h hi => r_expression (X := dX ty 0) hT hB ho2 h_ro (fun q => hF q) i1 h hi, fun low i u h1 h2 h hi => rr_two hT h_ro i2 i1 h1 h2 h hi, fun i u h hi => r_operand (X := dX ty 0) (O := dO ty 0) hT hB ho2 h_ro (fun q => hF q) i3 i4 i5 i6 i8 h hi, fun a i u h hi hn => r_signed hT hB ho2 h_ro (fun q => hF q) h hi hn, fun i u h hi hn => r_cast hT hB ho2 h_ro (fun q => hF q) h hi hn, fun i u h hi => r_call hT hB ho2 h_ro (fun q => hF q) h hi, fun i u h hi hn => r_inner hT h_ro i7 h hi hn, fun a b' i u h hi => r_index hT hB ho2 h_ro (fun q => hF q) h hi, fun a i u h hi ht => r_spot hT hB h_ro i7 h hi ht⟩
  | succ L ihL =>
    intro o ho d
    have ho2 : o ≤ 24 := by omega
    have hB : 0 < L + 1 ↔ o < 24 := by omega
    have up := ihL (o + 1) (by omega)
    induction d with
    | zero => exact ⟨fun _ _ _ _ => pp_none, fun _ _ _ _ _ _ _ => pp_none, fun _ _ _ _ => pp_none, fun _ _ _ _ _ _ => pp_none, fun _ _ _ _ _ => pp_none, fun _ _ _ _ => pp_none, fun _ _ _ _ _ => pp_none, fun _ _ _ _ _ _ => pp_none, fun _ _ _ _ _ _ => pp_none⟩
    | succ d ih =>
      obtain ⟨i0, i1, i2, i3, i4, i5, i6, i7, i8⟩ := ih
      have h_ro : ∀ q a b u, KP (FE_ N d q a b u) u := sk_FE_ d
      have hX := (up d).1
      have hO := (up d).2.2.1
      refine ⟨fun i u h hi => r_expression (X := dX ty (L + 1)) hT hB ho2 h_ro (fun _ => hX) i1 h hi, fun low i u h1 h2 h hi => rr_two hT h_ro i2 i1 h1 h2 h hi, fun i u h hi => r_operand (X := dX ty (L + 1)) (O := dO ty (L + 1)) hT hB ho2 h_ro (fun _ => hX) i3 i4 i5 i6 i8 h hi, fun a i u h hi hn => r_signed hT hB ho2 h_ro (fun _ => hO) h hi hn, fun i u h hi hn => r_cast hT hB ho2 h_ro (fun _ => hO) h hi hn, fun i u h hi => r_call hT hB ho2 h_ro (fun _ => hX) h hi, fun i u h hi hn => r_inner hT h_ro i7 h hi hn, fun a b' i u h hi => r_index hT hB ho2 h_ro (fun _ => hX) h hi, fun a i u h hi ht => r_spot hT hB h_ro i7 h hi ht⟩
theorem r_E (hT : RT ty ts n) (ho : o ≤ 24) (h : RQ ts ta u i o) (hi : i ≤ n) : pp (G_expression N u) (fun _ w => ORf ts ta n o (dX ty (25 - o) i) w) := by
  have := (r_EO (N := N) (ta := ta) hT (24 - o) o (by omega) 400).1 i u h hi
  rw [show 24 - o + 1 = 25 - o by omega] at this
  exact this
theorem r_Sp {a : Int32} (hT : RT ty ts n) (ho : o ≤ 24) (h : RQ ts ta u i o) (hi : i ≤ n) (ht : ty i = 128) : pp (G_spot N a u) (fun _ w => ORf ts ta n o (oN (oS (dIdx ty (0 < 24 - o) (dX ty (24 - o))) (dBit ty)) i) w) :=
  (r_EO (N := N) (ta := ta) hT (24 - o) o (by omega) 400).2.2.2.2.2.2.2.2 a i u h hi ht
end ROpd
