/-! The reference's first pass: expressions. -/
def cS (t : Int32) : Int32 := (F_X9_strength 0 t).getD 0
def ssP (o : Option Int32) : Prop := 0 ≤ (o.getD 0).toInt ∧ (o.getD 0).toInt ≤ 10
theorem ssP_if {c : Prop} {d : Decidable c} {a b : Option Int32} (ha : ssP a) (hb : ssP b) : ssP (if c then a else b) := by
  by_cases q : c
  · rw [if_pos q]; exact ha
  · rw [if_neg q]; exact hb
theorem cS_le (t : Int32) : 0 ≤ (cS t).toInt ∧ (cS t).toInt ≤ 10 := by
  show ssP (F_X9_strength 0 t)
  unfold F_X9_strength B_X9_strength_0
  refine ssP_if ⟨by decide, by decide⟩ ?_
  refine ssP_if ⟨by decide, by decide⟩ ?_
  refine ssP_if ⟨by decide, by decide⟩ ?_
  refine ssP_if ⟨by decide, by decide⟩ ?_
  refine ssP_if ⟨by decide, by decide⟩ ?_
  refine ssP_if ⟨by decide, by decide⟩ ?_
  refine ssP_if ⟨by decide, by decide⟩ ?_
  refine ssP_if ⟨by decide, by decide⟩ ?_
  refine ssP_if ⟨by decide, by decide⟩ ?_
  refine ssP_if ⟨by decide, by decide⟩ ?_
  refine ssP_if ⟨by decide, by decide⟩ ?_
  refine ssP_if ⟨by decide, by decide⟩ ?_
  refine ssP_if ⟨by decide, by decide⟩ ?_
  refine ssP_if ⟨by decide, by decide⟩ ?_
  refine ssP_if ⟨by decide, by decide⟩ ?_
  refine ssP_if ⟨by decide, by decide⟩ ?_
  refine ssP_if ⟨by decide, by decide⟩ ?_
  refine ssP_if ⟨by decide, by decide⟩ ?_
  refine ssP_if ⟨by decide, by decide⟩ ?_
  exact ⟨by decide, by decide⟩
theorem isOp_iff (t : Int32) : isOp t ↔ ¬ cS t < 1 := by
  obtain ⟨s, hs, -⟩ := g_strength (N := 0) t
  have e : cS t = s := by unfold cS; rw [hs]; rfl
  have e1 : (1 : Int32).toInt = 1 := by decide
  have e0 : (0 : Int32).toInt = 0 := by decide
  constructor
  · rintro ⟨s2, h1, h2⟩ q
    rw [hs] at h1
    cases h1
    rw [e] at q
    have := Int32.lt_iff_toInt_lt.mp q
    exact h2 (Int32.le_iff_toInt_le.mpr (by omega))
  · intro q
    refine ⟨s, hs, fun z => q ?_⟩
    rw [e]
    have := Int32.le_iff_toInt_le.mp z
    exact Int32.lt_iff_toInt_lt.mpr (by omega)
section RExp
variable {ty ts ta : Nat → Int32} {N n i o o2 : Nat} {u : RSt} {b : Prop} {β : Type} {Q : β → RSt → Prop}
theorem r_strength {k : Int32 → RSt → Option (β × RSt)} (hT : RT ty ts n) (h : RQ ts ta u i o) (hi : i ≤ n) (kk : pp (k (cS (ty i)) u) Q) : pp (bn (F_strength N u) k) Q := by
  have e : (if ts i = 215 then (1 : Int32) else if ts i = 216 then 2 else if ts i = 217 then 6 else if ts i = 218 then 6 else if ts i = 219 then 7 else if ts i = 220 then 7 else if ts i = 235 then 3 else if ts i = 236 then 4 else if ts i = 237 then 5 else if ts i = 238 then 7 else if ts i = 239 then 7 else if ts i = 221 then 8 else if ts i = 222 then 8 else if ts i = 203 then 8 else if ts i = 240 then 9 else if ts i = 241 then 9 else if ts i = 242 then 10 else if ts i = 243 then 10 else if ts i = 244 then 10 else 0) = cS (ty i) := (show ∀ p ∈ prs, (if p.2 = 215 then (1 : Int32) else if p.2 = 216 then 2 else if p.2 = 217 then 6 else if p.2 = 218 then 6 else if p.2 = 219 then 7 else if p.2 = 220 then 7 else if p.2 = 235 then 3 else if p.2 = 236 then 4 else if p.2 = 237 then 5 else if p.2 = 238 then 7 else if p.2 = 239 then 7 else if p.2 = 221 then 8 else if p.2 = 222 then 8 else if p.2 = 203 then 8 else if p.2 = 240 then 9 else if p.2 = 241 then 9 else if p.2 = 242 then 10 else if p.2 = 243 then 10 else if p.2 = 244 then 10 else 0) = cS p.1 by decide +kernel) (ty i, ts i) (hT.1 i hi)
  refine pp_bn ?_
  unfold F_strength B_strength_0 B_strength_193 B_strength_228 B_strength_278
  rw [if_pos h.2.2.2.1]
  rw [← e] at kk
  refine r_ts h ?_
  by_cases c1 : ts i = 215
  · rw [if_pos c1] at kk ⊢; exact pp_some kk
  rw [if_neg c1] at kk ⊢
  by_cases c2 : ts i = 216
  · rw [if_pos c2] at kk ⊢; exact pp_some kk
  rw [if_neg c2] at kk ⊢
  by_cases c3 : ts i = 217
  · rw [if_pos c3] at kk ⊢; exact pp_some kk
  rw [if_neg c3] at kk ⊢
  by_cases c4 : ts i = 218
  · rw [if_pos c4] at kk ⊢; exact pp_some kk
  rw [if_neg c4] at kk ⊢
  by_cases c5 : ts i = 219
  · rw [if_pos c5] at kk ⊢; exact pp_some kk
  rw [if_neg c5] at kk ⊢
  by_cases c6 : ts i = 220
  · rw [if_pos c6] at kk ⊢; exact pp_some kk
  rw [if_neg c6] at kk ⊢
  by_cases c7 : ts i = 235
  · rw [if_pos c7] at kk ⊢; exact pp_some kk
  rw [if_neg c7] at kk ⊢
  by_cases c8 : ts i = 236
  · rw [if_pos c8] at kk ⊢; exact pp_some kk
  rw [if_neg c8] at kk ⊢
  by_cases c9 : ts i = 237
  · rw [if_pos c9] at kk ⊢; exact pp_some kk
  rw [if_neg c9] at kk ⊢
  by_cases c10 : ts i = 238
  · rw [if_pos c10] at kk ⊢; exact pp_some kk
  rw [if_neg c10] at kk ⊢
  by_cases c11 : ts i = 239
  · rw [if_pos c11] at kk ⊢; exact pp_some kk
  rw [if_neg c11] at kk ⊢
  refine r_ts h ?_
  by_cases c12 : ts i = 221
  · rw [if_pos c12] at kk ⊢; exact pp_some kk
  rw [if_neg c12] at kk ⊢
  refine r_ts h ?_
  by_cases c13 : ts i = 222
  · rw [if_pos c13] at kk ⊢; exact pp_some kk
  rw [if_neg c13] at kk ⊢
  refine r_ts h ?_
  by_cases c14 : ts i = 203
  · rw [if_pos c14] at kk ⊢; exact pp_some kk
  rw [if_neg c14] at kk ⊢
  refine r_ts h ?_
  by_cases c15 : ts i = 240
  · rw [if_pos c15] at kk ⊢; exact pp_some kk
  rw [if_neg c15] at kk ⊢
  refine r_ts h ?_
  by_cases c16 : ts i = 241
  · rw [if_pos c16] at kk ⊢; exact pp_some kk
  rw [if_neg c16] at kk ⊢
  refine r_ts h ?_
  by_cases c17 : ts i = 242
  · rw [if_pos c17] at kk ⊢; exact pp_some kk
  rw [if_neg c17] at kk ⊢
  refine r_ts h ?_
  by_cases c18 : ts i = 243
  · rw [if_pos c18] at kk ⊢; exact pp_some kk
  rw [if_neg c18] at kk ⊢
  refine r_ts h ?_
  by_cases c19 : ts i = 244
  · rw [if_pos c19] at kk ⊢; exact pp_some kk
  rw [if_neg c19] at kk ⊢
  exact pp_some kk
theorem r_joined {k : Int32 → RSt → Option (β × RSt)} {a1 a2 a3 a4 : Int32} (h : RQ ts ta u i o) (kk : ∀ r, pp (k r u) Q) : pp (bn (F_joined N a1 a2 a3 a4 u) k) Q := by
  refine pp_bn ?_
  have h92 : ∀ l, pp (B_joined_92 N a1 l u) (fun r w => pp (k r w) Q) := by
    intro l
    have h139 : ∀ s, pp (B_joined_139 N l s u) (fun r w => pp (k r w) Q) := by
      intro s
      unfold B_joined_139
      exact pp_if (fun _ => pp_some (kk _)) (fun _ => pp_if (fun _ => pp_some (kk _)) (fun _ => pp_some (kk _)))
    unfold B_joined_92 B_joined_134
    exact pp_if (fun _ => h139 _) (fun _ => pp_if (fun _ => h139 _) (fun _ => pp_if (fun _ => h139 _) (fun _ => pp_if (fun _ => h139 _) (fun _ => pp_if (fun _ => h139 _) (fun _ => pp_if (fun _ => h139 _) (fun _ => h139 _))))))
  have h49 : ∀ s, pp (B_joined_49 N a1 a2 s u) (fun r w => pp (k r w) Q) := by
    intro s
    unfold B_joined_49
    refine rr_emit h ?_
    rw [if_pos h.2.2.1]
    exact h92 _
  have h26 : ∀ s, pp (B_joined_26 N a1 a2 a3 a4 s u) (fun r w => pp (k r w) Q) := by
    intro s
    unfold B_joined_26 B_joined_44 B_joined_48
    exact pp_if (fun _ => h49 _) (fun _ => pp_if (fun _ => pp_if (fun _ => h49 _) (fun _ => h49 _)) (fun _ => h49 _))
  unfold F_joined B_joined_0 B_joined_21
  exact pp_if (fun _ => h26 _) (fun _ => pp_if (fun _ => h26 _) (fun _ => pp_if (fun _ => h26 _) (fun _ => h26 _)))
theorem r_bounded {x y : Int32} (hT : RT ty ts n) (h : RQ ts ta u i o) (hi : i ≤ n) : pp (F_bounded N x y u) (fun _ w => ORf ts ta n o (oT ty 129 i) w) := by
  unfold F_bounded B_bounded_0
  refine r_isNumber hT h hi (fun c => ?_) (fun c => ?_)
  · rw [if_neg (by decide)]
    have hl := hT.lt hi (by rw [c]; exact nEnd (by decide) (by decide) (by decide))
    have h57 : ∀ s, pp (B_bounded_57 N s u) (fun _ w => ORf ts ta n o (oT ty 129 i) w) := by
      intro s
      unfold B_bounded_57
      refine pp_rd (r_wrong h (r_adv hT h hl (fun w hw => pp_rd (pp_some (Or.inr ⟨i + 1, Or.inl ⟨c, rfl⟩, hl, hw⟩)))))
    unfold B_bounded_52
    refine r_is0 h (fun _ => ?_) (fun _ => ?_)
    · rw [if_neg (by decide)]
      exact h57 _
    · rw [if_pos rfl]
      exact pp_rd (pp_if (fun _ => h57 _) (fun _ => pp_rd (pp_if (fun _ => h57 _) (fun _ => h57 _))))
  · rw [if_pos rfl]
    exact pp_bn (pp_m (r_stuck h hi) (fun _ w hw => pp_some (ORf_m (fun q hq => Or.inr ⟨c, hq⟩) hw)))
theorem r_constant (hT : RT ty ts n) (h : RQ ts ta u i o) (hi : i ≤ n) : pp (F_constant N u) (fun _ w => ORf ts ta n o (dC ty i) w) := by
  have c130 : ∀ p ∈ prs, (p.2 = 4 ↔ p.1 = 130) := by decide +kernel
  have tail : ∀ (r : Int32) (w : RSt) (j : Nat), RQ ts ta w j o → j ≤ n → pp (bn (F_isNumber N w) fun r_20 u_19 => if r_20 = (0 : Int32) then (bn (F_is N 4 u_19) fun r_23 u_22 => if r_23 = (0 : Int32) then (bn (F_stuck N u_22) fun _ u_25 => some (0, u_25)) else (B_constant_28 N r u_22)) else (B_constant_28 N r u_19)) (fun _ w => ORf ts ta n o (dC1 ty j) w) := by
    intro r w j hw hj
    have h28 : (ty j = 129 ∨ ty j = 130) → pp (B_constant_28 N r w) (fun _ w => ORf ts ta n o (dC1 ty j) w) := by
      intro c
      have hl := hT.lt hj (by rcases c with c | c <;> (rw [c]; exact nEnd (by decide) (by decide) (by decide)))
      have h86 : ∀ s, pp (B_constant_86 N s w) (fun _ w => ORf ts ta n o (dC1 ty j) w) := by
        intro s
        unfold B_constant_86
        exact r_l hw (fun w2 h2 => r_adv hT h2 hl (fun w3 h3 => pp_some (Or.inr ⟨j + 1, Or.inl ⟨c, rfl⟩, hl, h3⟩)))
      unfold B_constant_28
      have go : ∀ x : Int32, pp (rd (w.2.2.1 3) 1502 (w.1 65) fun v_5 => bn (F_wrong N x 5 v_5 w) fun _ u_7 => if r = (0 : Int32) then (rd (u_7.2.2.2 4) 1502 (u_7.1 65) fun v_9 => B_constant_86 N v_9 u_7) else (rd (u_7.2.2.1 5) 1502 (u_7.1 65) fun v_11 => rd (u_7.2.2.2 4) 1502 (u_7.1 65) fun v_13 => B_constant_86 N (r_worked v_11 (-v_13)) u_7)) (fun _ w => ORf ts ta n o (dC1 ty j) w) := by
        intro x
        exact pp_rd (r_wrong hw (pp_if (fun _ => pp_rd (h86 _)) (fun _ => pp_rd (pp_rd (h86 _)))))
      exact r_is0 hw (fun _ => go _) (fun _ => go _)
    refine r_isNumber hT hw hj (fun c => ?_) (fun c => ?_)
    · rw [if_neg (by decide)]
      exact h28 (Or.inl c)
    · rw [if_pos rfl]
      refine r_if hT c130 hw hj (fun c2 => h28 (Or.inr c2)) (fun c2 => ?_)
      exact pp_bn (pp_m (r_stuck hw hj) (fun _ w hw => pp_some (ORf_m (fun q hq => Or.inr ⟨fun z => z.elim c c2, hq⟩) hw)))
  unfold F_constant B_constant_0
  refine rr_has hT (t := 45) (by decide +kernel) (nEnd (by decide) (by decide) (by decide)) h hi (fun c hl w hw => ?_) (fun c => ?_)
  · exact r_m (fun q hq => Or.inl ⟨c, hq⟩) (tail _ w (i + 1) hw hl)
  · exact r_m (fun q hq => Or.inr ⟨c, hq⟩) (tail _ u i h hi)
end RExp
section RExp2
variable {ty ts ta : Nat → Int32} {N n i o : Nat} {u : RSt} {b : Prop} {X O : Rl} {ro : Nat → Int32 → Int32 → RSt → Option (Int32 × RSt)}
theorem r_index {l1 l2 : Int32} (hT : RT ty ts n) (hB : b ↔ o < 24) (ho : o ≤ 24) (h_ro : ∀ q a b u, KP (ro q a b u) u) (hX : o < 24 → ∀ (i : Nat) (u : RSt), RQ ts ta u i (o + 1) → i ≤ n → pp (ro 0 0 0 u) (fun _ w => ORf ts ta n (o + 1) (X i) w)) (h : RQ ts ta u i o) (hi : i ≤ n) : pp (F_index N ro l1 l2 u) (fun _ w => ORf ts ta n o (oS (oP ty b 91) (oS X (oT ty 93)) i) w) := by
  unfold F_index B_index_0
  refine r_bn (r_begins hT (by decide +kernel) (nEnd (by decide) (by decide) (by decide)) (by decide) hB ho h hi) (fun _ w j d hj hw => ?_) (fun _ _ => by repeat' (first | exact KP_some kp_rf | with_reducible refine KP_bn ?_ (fun _ _ => ?_) | with_reducible refine KP_if ?_ ?_ | with_reducible refine KP_rd (fun _ => ?_) | with_reducible refine KP_zr ?_ | (with_reducible refine KP_pu2 ?_ ?_; first | exact ks_sI (by decide) kp_rf | exact ks_sL kp_rf | exact ks_sA (by decide) kp_rf | exact ks_sB (by decide) kp_rf) | (with_reducible refine KP_wr2 ?_ ?_; first | exact ks_sA (by decide) kp_rf | exact ks_sB (by decide) kp_rf) | with_reducible exact h_ro _ _ _ _ | with_reducible exact sk_F_is | with_reducible exact sk_F_take | with_reducible exact sk_F_emit | with_reducible exact sk_F_wrong | with_reducible exact sk_F_cost | with_reducible exact sk_F_stuck | with_reducible exact sk_F_ends | with_reducible exact sk_F_begins | with_reducible exact sk_F_opens | with_reducible exact sk_F_has | with_reducible exact sk_F_isNumber | with_reducible exact sk_F_isNext | with_reducible exact sk_F_push | with_reducible exact sk_F_lead | with_reducible exact sk_F_here | with_reducible exact sk_F_kind | with_reducible exact sk_F_isKind | with_reducible exact sk_F_own | with_reducible exact sk_F_constant | with_reducible exact sk_F_bounded | with_reducible exact sk_F_joined | with_reducible exact sk_F_strength | with_reducible exact sk_F_leadAll | with_reducible exact sk_F_loop | with_reducible exact sk_F_label | with_reducible exact sk_F_leaves | with_reducible exact sk_F_telling | with_reducible exact sk_F_local | with_reducible exact sk_F_addSlot | with_reducible exact sk_F_addVariable | with_reducible exact sk_F_isTooWide | with_reducible exact sk_F_named | with_reducible exact sk_F_slotOf | with_reducible exact sk_F_bad | with_reducible exact sk_G_expression | with_reducible exact sk_G_spot | with_reducible exact sk_G_body | with_reducible exact sk_G_stat | (with_reducible refine sk_B_index_35 ?_ <;> assumption) | (with_reducible refine sk_B_index_0 ?_ <;> assumption) | (with_reducible refine sk_F_index ?_ <;> assumption)))
  have ho2 : o < 24 := hB.mp (by rcases d with ⟨q, -⟩ | ⟨-, q⟩; exact q.2; cases q)
  refine pp_rd (r_bn (hX ho2 j w hw hj) (fun _ w2 j2 d2 hj2 h2 => ?_) (fun _ _ => by repeat' (first | exact KP_some kp_rf | with_reducible refine KP_bn ?_ (fun _ _ => ?_) | with_reducible refine KP_if ?_ ?_ | with_reducible refine KP_rd (fun _ => ?_) | with_reducible refine KP_zr ?_ | (with_reducible refine KP_pu2 ?_ ?_; first | exact ks_sI (by decide) kp_rf | exact ks_sL kp_rf | exact ks_sA (by decide) kp_rf | exact ks_sB (by decide) kp_rf) | (with_reducible refine KP_wr2 ?_ ?_; first | exact ks_sA (by decide) kp_rf | exact ks_sB (by decide) kp_rf) | with_reducible exact h_ro _ _ _ _ | with_reducible exact sk_F_is | with_reducible exact sk_F_take | with_reducible exact sk_F_emit | with_reducible exact sk_F_wrong | with_reducible exact sk_F_cost | with_reducible exact sk_F_stuck | with_reducible exact sk_F_ends | with_reducible exact sk_F_begins | with_reducible exact sk_F_opens | with_reducible exact sk_F_has | with_reducible exact sk_F_isNumber | with_reducible exact sk_F_isNext | with_reducible exact sk_F_push | with_reducible exact sk_F_lead | with_reducible exact sk_F_here | with_reducible exact sk_F_kind | with_reducible exact sk_F_isKind | with_reducible exact sk_F_own | with_reducible exact sk_F_constant | with_reducible exact sk_F_bounded | with_reducible exact sk_F_joined | with_reducible exact sk_F_strength | with_reducible exact sk_F_leadAll | with_reducible exact sk_F_loop | with_reducible exact sk_F_label | with_reducible exact sk_F_leaves | with_reducible exact sk_F_telling | with_reducible exact sk_F_local | with_reducible exact sk_F_addSlot | with_reducible exact sk_F_addVariable | with_reducible exact sk_F_isTooWide | with_reducible exact sk_F_named | with_reducible exact sk_F_slotOf | with_reducible exact sk_F_bad | with_reducible exact sk_G_expression | with_reducible exact sk_G_spot | with_reducible exact sk_G_body | with_reducible exact sk_G_stat | (with_reducible refine sk_B_index_35 ?_ <;> assumption) | (with_reducible refine sk_B_index_0 ?_ <;> assumption) | (with_reducible refine sk_F_index ?_ <;> assumption))))
  have tail : ∀ v s, pp (B_index_35 N ro l1 l2 v s w2) (fun _ w => ORf ts ta n o (oT ty 93 j2) w) := by
    intro v s
    unfold B_index_35
    exact r_wrong h2 (rr_emit h2 (pp_bn (pp_m (r_ends hT (by decide +kernel) (nEnd (by decide) (by decide) (by decide)) (by omega) h2 hj2) (fun _ w hw => pp_some hw))))
  exact pp_if (fun _ => tail _ _) (fun _ => tail _ _)
/-- Place: from its NAME on -/
theorem r_spot {l1 : Int32} (hT : RT ty ts n) (hB : b ↔ o < 24) (h_ro : ∀ q a b u, KP (ro q a b u) u) (h7 : ∀ (a b' : Int32) (i : Nat) (u : RSt), RQ ts ta u i o → i ≤ n → pp (ro 7 a b' u) (fun _ w => ORf ts ta n o (oS (oP ty b 91) (oS X (oT ty 93)) i) w)) (h : RQ ts ta u i o) (hi : i ≤ n) (ht : ty i = 128) : pp (F_spot N ro l1 u) (fun _ w => ORf ts ta n o (oN (oS (dIdx ty b X) (dBit ty)) i) w) := by
  have hl : i < n := hT.lt hi (by rw [ht]; exact nEnd (by decide) (by decide) (by decide))
  have h382 : ∀ (a : Int32) (w : RSt) (j : Nat), RQ ts ta w j o → j ≤ n → pp (B_spot_382 N ro a w) (fun _ w => ORf ts ta n o (dBit ty j) w) := by
    intro a w j hw hj
    have h409 : ∀ (c : Int32) (w : RSt) (j : Nat) (D : Sum Nat Nat → Prop), ORf ts ta n o D w → pp (B_spot_409 N ro a c w) (fun _ w => ORf ts ta n o D w) := by
      intro c w j D hw
      unfold B_spot_409
      rcases hw with ⟨p, d, hp, g⟩ | ⟨j, d, hj, g⟩
      · exact pp_some (Or.inl ⟨p, d, hp, g⟩)
      · exact r_c g (by decide) (fun w2 h2 => r_c h2 (by decide) (fun w3 h3 => pp_some (Or.inr ⟨j, d, hj, h3⟩)))
    unfold B_spot_382
    refine rr_has hT (t := 46) (by decide +kernel) (nEnd (by decide) (by decide) (by decide)) hw hj (fun c hl w2 h2 => ?_) (fun c => ?_)
    · rw [if_neg (by decide)]
      exact pp_bn (pp_m (r_bounded hT h2 hl) (fun r w3 h3 => h409 r w3 j _ (ORf_m (fun q hq => Or.inl ⟨c, hq⟩) h3)))
    · rw [if_pos rfl]
      exact h409 _ _ j _ (Or.inr ⟨j, Or.inr ⟨c, rfl⟩, hj, hw⟩)
  have h305 : ∀ (a b' c d e : Int32) (w : RSt) (j : Nat), RQ ts ta w j o → j ≤ n → pp (B_spot_305 N ro a 0 b' c d w) (fun _ w => ORf ts ta n o (dBit ty j) w) := by
    intro a b' c d e w j hw hj
    have h361 : ∀ (x y : Int32), pp (B_spot_361 N ro c d x y w) (fun _ w => ORf ts ta n o (dBit ty j) w) := by
      intro x y
      unfold B_spot_361
      exact rr_emit hw (pp_if (fun _ => h382 c w j hw hj) (fun _ => rr_emit hw (h382 c w j hw hj)))
    have h331 : ∀ x : Int32, pp (B_spot_331 N ro a 0 b' c d x w) (fun _ w => ORf ts ta n o (dBit ty j) w) := by
      intro x
      unfold B_spot_331
      rw [if_pos rfl]
      exact h361 _ _
    unfold B_spot_305
    exact pp_if (fun _ => h331 _) (fun _ => pp_if (fun _ => h331 _) (fun _ => h331 _))
  have h283 : ∀ (a b' c d e f : Int32), (f = 0 ∧ ¬ ty (i + 1) = 91 ∨ ¬ f = 0 ∧ ty (i + 1) = 91) → pp (B_spot_283 N ro a b' 0 c d e f u) (fun _ w => ORf ts ta n o (oN (oS (dIdx ty b X) (dBit ty)) i) w) := by
    intro a b' c d e f hf
    unfold B_spot_283
    refine r_adv hT h hl (fun w hw => ?_)
    rcases hf with ⟨f0, hn⟩ | ⟨f1, hy⟩
    · rw [if_pos f0]
      exact r_m (fun q hq => Or.inl ⟨i + 1, Or.inr ⟨hn, rfl⟩, hq⟩) (h305 _ _ _ _ e w (i + 1) hw hl)
    · rw [if_neg f1]
      refine r_m (D := oS (oS (oP ty b 91) (oS X (oT ty 93))) (dBit ty) (i + 1)) (fun q hq => ?_) ?_
      · rcases hq with ⟨j, d1, d2⟩ | ⟨p, d1, d2⟩
        · exact Or.inl ⟨j, Or.inl ⟨hy, d1⟩, d2⟩
        · exact Or.inr ⟨p, Or.inl ⟨hy, d1⟩, d2⟩
      · exact r_bn (h7 _ _ _ w hw hl) (fun _ w2 j2 _ hj2 h2 => h305 _ _ _ _ e w2 j2 h2 hj2) (fun _ _ => by repeat' (first | exact KP_some kp_rf | with_reducible refine KP_bn ?_ (fun _ _ => ?_) | with_reducible refine KP_if ?_ ?_ | with_reducible refine KP_rd (fun _ => ?_) | with_reducible refine KP_zr ?_ | (with_reducible refine KP_pu2 ?_ ?_; first | exact ks_sI (by decide) kp_rf | exact ks_sL kp_rf | exact ks_sA (by decide) kp_rf | exact ks_sB (by decide) kp_rf) | (with_reducible refine KP_wr2 ?_ ?_; first | exact ks_sA (by decide) kp_rf | exact ks_sB (by decide) kp_rf) | with_reducible exact h_ro _ _ _ _ | with_reducible exact sk_F_is | with_reducible exact sk_F_take | with_reducible exact sk_F_emit | with_reducible exact sk_F_wrong | with_reducible exact sk_F_cost | with_reducible exact sk_F_stuck | with_reducible exact sk_F_ends | with_reducible exact sk_F_begins | with_reducible exact sk_F_opens | with_reducible exact sk_F_has | with_reducible exact sk_F_isNumber | with_reducible exact sk_F_isNext | with_reducible exact sk_F_push | with_reducible exact sk_F_lead | with_reducible exact sk_F_here | with_reducible exact sk_F_kind | with_reducible exact sk_F_isKind | with_reducible exact sk_F_own | with_reducible exact sk_F_constant | with_reducible exact sk_F_bounded | with_reducible exact sk_F_joined | with_reducible exact sk_F_strength | with_reducible exact sk_F_leadAll | with_reducible exact sk_F_loop | with_reducible exact sk_F_label | with_reducible exact sk_F_leaves | with_reducible exact sk_F_telling | with_reducible exact sk_F_local | with_reducible exact sk_F_addSlot | with_reducible exact sk_F_addVariable | with_reducible exact sk_F_isTooWide | with_reducible exact sk_F_named | with_reducible exact sk_F_slotOf | with_reducible exact sk_F_bad | with_reducible exact sk_G_expression | with_reducible exact sk_G_spot | with_reducible exact sk_G_body | with_reducible exact sk_G_stat | (with_reducible refine sk_B_spot_409 ?_ <;> assumption) | (with_reducible refine sk_B_spot_382 ?_ <;> assumption) | (with_reducible refine sk_B_spot_361 ?_ <;> assumption) | (with_reducible refine sk_B_spot_331 ?_ <;> assumption) | (with_reducible refine sk_B_spot_305 ?_ <;> assumption) | (with_reducible refine sk_B_spot_283 ?_ <;> assumption) | (with_reducible refine sk_B_spot_269 ?_ <;> assumption) | (with_reducible refine sk_B_spot_268 ?_ <;> assumption) | (with_reducible refine sk_B_spot_233 ?_ <;> assumption) | (with_reducible refine sk_B_spot_232 ?_ <;> assumption) | (with_reducible refine sk_B_spot_223 ?_ <;> assumption) | (with_reducible refine sk_B_spot_185 ?_ <;> assumption) | (with_reducible refine sk_B_spot_153 ?_ <;> assumption) | (with_reducible refine sk_B_spot_108 ?_ <;> assumption) | (with_reducible refine sk_B_spot_107 ?_ <;> assumption) | (with_reducible refine sk_B_spot_84 ?_ <;> assumption) | (with_reducible refine sk_B_spot_83 ?_ <;> assumption) | (with_reducible refine sk_B_spot_65 ?_ <;> assumption) | (with_reducible refine sk_B_spot_64 ?_ <;> assumption) | (with_reducible refine sk_B_spot_43 ?_ <;> assumption) | (with_reducible refine sk_B_spot_0 ?_ <;> assumption) | (with_reducible refine sk_F_spot ?_ <;> assumption) | with_reducible exact sk_G_spot))
  have h185 : ∀ (a b' c d e : Int32), pp (B_spot_185 N ro l1 a b' 0 c d e u) (fun _ w => ORf ts ta n o (oN (oS (dIdx ty b X) (dBit ty)) i) w) := by
    intro a b' c d e
    have h269 : ∀ f s : Int32, (f = 0 ∧ ¬ ty (i + 1) = 91 ∨ ¬ f = 0 ∧ ty (i + 1) = 91) → pp (B_spot_269 N ro l1 a b' 0 c d e f s u) (fun _ w => ORf ts ta n o (oN (oS (dIdx ty b X) (dBit ty)) i) w) := by
      intro f s hf
      unfold B_spot_269
      exact r_wrong h (pp_if (fun _ => r_cost h (h283 _ _ _ _ _ _ hf)) (fun _ => h283 _ _ _ _ _ _ hf))
    have h232 : ∀ f : Int32, (f = 0 ∧ ¬ ty (i + 1) = 91 ∨ ¬ f = 0 ∧ ty (i + 1) = 91) → pp (B_spot_232 N ro l1 a b' 0 c d e f u) (fun _ w => ORf ts ta n o (oN (oS (dIdx ty b X) (dBit ty)) i) w) := by
      intro f hf
      unfold B_spot_232 B_spot_233
      refine r_wrong h ?_
      rw [if_pos rfl]
      unfold B_spot_268
      exact h269 _ _ hf
    unfold B_spot_185
    refine r_isNext hT (t := 91) (by decide +kernel) h hl (by rw [ht]; exact nEnd (by decide) (by decide) (by decide)) (fun c1 => ?_) (fun c1 => ?_)
    · rw [if_pos rfl]
      exact h232 1 (Or.inr ⟨by decide, c1⟩)
    · rw [if_pos rfl]
      exact h232 0 (Or.inl ⟨rfl, c1⟩)
  have h84 : ∀ a b' c s : Int32, pp (B_spot_84 N ro l1 a b' c s u) (fun _ w => ORf ts ta n o (oN (oS (dIdx ty b X) (dBit ty)) i) w) := by
    intro a b' c s
    unfold B_spot_84
    refine r_wrong h ?_
    rw [if_pos h.2.2.1]
    unfold B_spot_107 B_spot_108
    rw [if_pos rfl]
    unfold B_spot_153
    rw [if_pos rfl]
    exact h185 _ _ _ _ _
  unfold F_spot B_spot_0
  refine pp_rd ?_
  rw [if_pos h.2.2.1]
  unfold B_spot_43
  rw [if_pos rfl, if_pos h.2.2.1]
  unfold B_spot_64 B_spot_65
  rw [if_pos rfl, if_pos rfl]
  exact h84 _ _ _ _
end RExp2
