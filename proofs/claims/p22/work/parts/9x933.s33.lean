/-! The second pass: calls of the eight; a call. -/
def biR (l3 a6 a7 : Int32) : Int32 := if (if a6 = 4 then (1 : Int32) else if l3 = 1 ∨ l3 = 2 then (if a7 = 4 then 1 else 0) else 0) = 0 then 3 else if 6 ≤ l3 then 3 else 4
def biC (l3 a3 a4 : Int32) : Int32 := if l3 = 6 ∨ l3 = 7 then 3 else if l3 = 3 ∨ l3 = 4 then n_as a3 3 else a4
def BI (k : Nat) (a3 a4 a6 a7 : Int32) : Prop := (k = 0 ∧ a3 = 3 ∧ a4 = 3 ∧ a6 = 3 ∧ a7 = 3) ∨ (k = 1 ∧ KD a3 ∧ a6 = a3 ∧ a4 = n_as 3 a3 ∧ a7 = 3) ∨ (k = 2 ∧ KD a3 ∧ KD a7 ∧ a6 = a3 ∧ a4 = n_as (n_as 3 a3) a7) ∨ 3 ≤ k
theorem bi1 : ∀ l3 ∈ ([0, 5, 6, 7] : List Int32), ∀ a ∈ ([0, 1, 2, 3, 4] : List Int32), biC l3 a (n_as 3 a) = biR l3 a 3 ∧ KD (biR l3 a 3) := by
  unfold KD
  decide +kernel
theorem bi2 : ∀ l3 ∈ ([1, 2, 3, 4] : List Int32), ∀ a ∈ ([0, 1, 2, 3, 4] : List Int32), ∀ b ∈ ([0, 1, 2, 3, 4] : List Int32), biC l3 a (n_as (n_as 3 a) b) = biR l3 a b ∧ KD (biR l3 a b) := by
  unfold KD
  decide +kernel
theorem KD_mem {a : Int32} (h : KD a) : a ∈ ([0, 1, 2, 3, 4] : List Int32) := by
  rcases h with rfl | rfl | rfl | rfl | rfl <;> decide
theorem i8_of {k : Int32} (h0 : 0 ≤ k.toInt) (h1 : k.toInt ≤ 7) : k = 0 ∨ k = 1 ∨ k = 2 ∨ k = 3 ∨ k = 4 ∨ k = 5 ∨ k = 6 ∨ k = 7 := by
  have a0 : (0 : Int32).toInt = 0 := by decide
  have a1 : (1 : Int32).toInt = 1 := by decide
  have a2 : (2 : Int32).toInt = 2 := by decide
  have a3 : (3 : Int32).toInt = 3 := by decide
  have a4 : (4 : Int32).toInt = 4 := by decide
  have a5 : (5 : Int32).toInt = 5 := by decide
  have a6 : (6 : Int32).toInt = 6 := by decide
  have a7 : (7 : Int32).toInt = 7 := by decide
  simp only [tI_eq, a0, a1, a2, a3, a4, a5, a6, a7]
  omega
theorem bi_same {v0 : CSt} {m k : Nat} {l3 a3 a4 a6 a7 : Int32} (hE : EI v0 m l3) (hB : BI k a3 a4 a6 a7) (hk : Int32.ofNat k = mI v0 m 11) (hk2 : k ≤ 1500) : biC l3 a3 a4 = biR l3 a6 a7 ∧ KD (biR l3 a6 a7) := by
  obtain ⟨h1, -, -, -, -, h2, h3⟩ := hE
  have ki := ofN_i (k := k) (by omega)
  rw [hk, h1] at ki
  have a1 : (1 : Int32).toInt = 1 := by decide
  have a2 : (2 : Int32).toInt = 2 := by decide
  have one : l3 ∈ ([0, 5, 6, 7] : List Int32) → (if l3 = 0 ∨ 4 < l3 then (1 : Int32) else 2) = 1 → biC l3 a3 a4 = biR l3 a6 a7 ∧ KD (biR l3 a6 a7) := by
    intro hl z
    rw [z, a1] at ki
    rcases hB with ⟨b1, -⟩ | ⟨b1, b2, b3, b4, b5⟩ | ⟨b1, -⟩ | b1
    · omega
    · rw [b3, b4, b5]
      exact bi1 l3 hl a3 (KD_mem b2)
    · omega
    · omega
  have two : l3 ∈ ([1, 2, 3, 4] : List Int32) → (if l3 = 0 ∨ 4 < l3 then (1 : Int32) else 2) = 2 → biC l3 a3 a4 = biR l3 a6 a7 ∧ KD (biR l3 a6 a7) := by
    intro hl z
    rw [z, a2] at ki
    rcases hB with ⟨b1, -⟩ | ⟨b1, -⟩ | ⟨b1, b2, b3, b4, b5⟩ | b1
    · omega
    · omega
    · rw [b4, b5]
      exact bi2 l3 hl a3 (KD_mem b2) a7 (KD_mem b3)
    · omega
  rcases i8_of h2 h3 with z | z | z | z | z | z | z | z
  · exact one (by rw [z]; decide) (by rw [z]; decide)
  · exact two (by rw [z]; decide) (by rw [z]; decide)
  · exact two (by rw [z]; decide) (by rw [z]; decide)
  · exact two (by rw [z]; decide) (by rw [z]; decide)
  · exact two (by rw [z]; decide) (by rw [z]; decide)
  · exact one (by rw [z]; decide) (by rw [z]; decide)
  · exact one (by rw [z]; decide) (by rw [z]; decide)
  · exact one (by rw [z]; decide) (by rw [z]; decide)
theorem BI_on {k : Nat} {a3 a4 a6 a7 b : Int32} (h : BI k a3 a4 a6 a7) (hb : KD b) (hk : k ≤ 1500) : BI (k + 1) (if Int32.ofNat k = 0 then b else a3) (n_as a4 b) (if Int32.ofNat k = 0 then b else a6) (if Int32.ofNat k = 0 then a7 else b) := by
  have ki := ofN_i (k := k) (by omega)
  have z0 : (0 : Int32).toInt = 0 := by decide
  rcases h with ⟨rfl, c1, c2, c3, c4⟩ | ⟨rfl, c1, c2, c3, c4⟩ | ⟨rfl, -⟩ | h
  · rw [if_pos (by rfl), if_pos (by rfl), if_pos (by rfl), c2, c4]
    exact Or.inr (Or.inl ⟨rfl, hb, rfl, rfl, rfl⟩)
  · have n1 : ¬ Int32.ofNat 1 = 0 := by decide
    rw [if_neg n1, if_neg n1, if_neg n1, c2, c3]
    exact Or.inr (Or.inr (Or.inl ⟨rfl, c1, hb, rfl, rfl⟩))
  · exact Or.inr (Or.inr (Or.inr (by omega)))
  · exact Or.inr (Or.inr (Or.inr (by omega)))
section Bi
variable {v0 v : CSt} {u0 u : RSt} {i j o l n N m d d' t : Nat} {e : E5} {c : R5} {X : Rl} {b : Prop} {p l1 l3 l4 a3 a4 a6 a7 : Int32} {R : Nat × Int32 × Int32 × Int32 × Int32 × CSt → Option (Sum Nat Int32 × CSt)} {R' : Int32 × Int32 × Int32 × Int32 × Int32 × Int32 × Int32 × Int32 × RSt → Option (Int32 × RSt)}
theorem k2_112 {ro : Nat → Nat → Int32 → Int32 → CSt → Option (Sum Nat Int32 × CSt)} {Q : Sum Nat Int32 → CSt → Prop} (hE : EI v0 m l3) (h : CE v0 v i l e) (kk : ∀ w, CE v0 w i l e → Q (.inr (biC l3 a3 a4)) w) : pq (B_X8_builtIn_112 N ro m p a3 a4 v) Q := by
  obtain ⟨-, q8, q9, q12, q13, -, -⟩ := hE
  have h192 : ∀ (a s0 : Nat) (L s1 s2 s3 : Int32), (L = if l3 = 3 ∨ l3 = 4 then n_as a3 3 else a4) → pq (B_X8_builtIn_192 N ro m p L s0 s1 s2 s3 v) Q := by
    intro a s0 L s1 s2 s3 hL
    unfold B_X8_builtIn_192 B_X8_builtIn_215
    refine k2_step h (fun _ w g => ?_)
    have k2 := kk w g
    unfold biC at k2
    rw [g.nm]
    refine pq_if (fun z => pq_some ?_) (fun z => pq_if (fun z2 => pq_some ?_) (fun z2 => pq_some ?_))
    · rw [if_pos (Or.inl (q12.mp z))] at k2; exact k2
    · rw [if_pos (Or.inr (q13.mp z2))] at k2; exact k2
    · rw [if_neg (fun y => y.elim (fun y => z (q12.mpr y)) (fun y => z2 (q13.mpr y))), ← hL] at k2; exact k2
  have h152 : ∀ L : Int32, (L = if l3 = 3 ∨ l3 = 4 then n_as a3 3 else a4) → pq (B_X8_builtIn_152 N ro m p L v) Q := by
    intro L hL
    unfold B_X8_builtIn_152 B_X8_builtIn_169
    exact pq_if (fun _ => pq_ok (fun _ => pq_if (fun _ => h192 0 _ L _ _ _ hL) (fun _ => h192 0 _ L _ _ _ hL))) (fun _ => pq_ok (fun _ => pq_if (fun _ => h192 0 _ L _ _ _ hL) (fun _ => h192 0 _ L _ _ _ hL)))
  unfold B_X8_builtIn_112 B_X8_builtIn_130 B_X8_builtIn_135
  rw [h.nm]
  refine pq_if (fun z => ?_) (fun z => pq_if (fun z2 => ?_) (fun z2 => ?_))
  · rw [if_neg (by decide)]
    exact h152 _ (by rw [if_pos (Or.inl (q8.mp z))])
  · rw [if_neg (by decide)]
    exact h152 _ (by rw [if_pos (Or.inr (q9.mp z2))])
  · rw [if_pos rfl]
    exact h152 _ (by rw [if_neg (fun y => y.elim (fun y => z (q8.mpr y)) (fun y => z2 (q9.mpr y)))])
theorem y_347 {ro : Nat → Int32 → Int32 → RSt → Option (Int32 × RSt)} (h' : RE u0 u i o l c) : pp (B_call_347 N ro l1 l3 a6 a7 0 u) (fun r x => r = biR l3 a6 a7 ∧ RE u0 x i o l c) := by
  have h400 : ∀ (s0 s3 : Int32), s0 = (if a6 = 4 then (1 : Int32) else if l3 = 1 ∨ l3 = 2 then (if a7 = 4 then 1 else 0) else 0) → pp (B_call_400 N ro l3 s0 30 l3 s3 u) (fun r x => r = biR l3 a6 a7 ∧ RE u0 x i o l c) := by
    intro s0 s3 hs
    unfold B_call_400 biR
    rw [← hs]
    refine y_emit h' (fun _ w hw => ?_)
    refine pp_if (fun z => pp_some ⟨by rw [if_pos z], hw⟩) (fun z => pp_if (fun z2 => pp_some ⟨by rw [if_neg z, if_pos z2], hw⟩) (fun z2 => pp_some ⟨by rw [if_neg z, if_neg z2], hw⟩))
  have h384 : ∀ s0 : Int32, s0 = (if a6 = 4 then (1 : Int32) else if l3 = 1 ∨ l3 = 2 then (if a7 = 4 then 1 else 0) else 0) → pp (B_call_384 N ro l3 s0 u) (fun r x => r = biR l3 a6 a7 ∧ RE u0 x i o l c) := by
    intro s0 hs
    unfold B_call_384
    exact pp_if (fun _ => h400 _ _ hs) (fun _ => h400 _ _ hs)
  have h373 : ¬ a6 = 4 → (l3 = 1 ∨ l3 = 2) → pp (B_call_373 N ro l3 a7 u) (fun r x => r = biR l3 a6 a7 ∧ RE u0 x i o l c) := by
    intro z z2
    unfold B_call_373 B_call_379 B_call_383
    exact pp_if (fun y => h384 1 (by rw [if_neg z, if_pos z2, if_pos y])) (fun y => h384 0 (by rw [if_neg z, if_pos z2, if_neg y]))
  unfold B_call_347
  refine pp_rd (y_ok rfl (pp_if (fun z => ?_) (fun z => pp_if (fun z2 => h373 z (Or.inl z2)) (fun z2 => pp_if (fun z3 => h373 z (Or.inr z3)) (fun z3 => ?_)))))
  · unfold B_call_379
    exact h384 1 (by rw [if_pos z])
  · unfold B_call_383
    exact h384 0 (by rw [if_neg z, if_neg (fun y => y.elim z2 z3)])
/-- behind the last argument -/
theorem j_biE {ro : Nat → Nat → Int32 → Int32 → CSt → Option (Sum Nat Int32 × CSt)} {k : Nat} (hV : EV2 v0 u0 n) (ho : o < 24) (hE : EI v0 m l3) (hB : BI k a3 a4 a6 a7) (hk : k ≤ 1500) (hl1 : l1.toNatClampNeg = t) (hp : p = u0.2.2.1 3 t) (hi : i < n) (ht : tyF v0 i = 41) (h : CE v0 v i l e) (h' : RE u0 u i (o + 1) l c) : jx (B_X8_builtIn_87 N ro m p a3 a4 (Int32.ofNat k) v) (B_call_123 N (FE_ N d') R' l1 (-1) l3 l4 (Int32.ofNat k) a6 a7 0 u) (NOq v0 u0 n (i + 1) o l e) := by
  have hj := hV.2.2.2.2.1
  have h_ro : ∀ q a b u, KP (FE_ N d' q a b u) u := sk_FE_ d'
  subst hp
  unfold B_X8_builtIn_87 B_call_123
  refine k2_next hV.1 h hi (fun w1 g1 => ?_)
  rw [if_pos rfl, g1.nm]
  refine jx_r (y_ends hV.2.1 (t := 41) (by decide +kernel) h' hi ht (by omega) (fun x1 r1 => pp_pu ?_))
  have r2 := r1.x78 (a := 0)
  rw [if_neg (by rw [r2.sc (by decide)]; exact hj), if_pos r2.2.1, if_pos rfl]
  have main : ∀ s2 : Int32, s2 = mI v0 m 11 → pp (B_call_339 N (FE_ N d') l1 l3 a6 a7 (Int32.ofNat k) s2 (sI x1 78 0)) (fun r x => pq (if Int32.ofNat k = mI v0 m 11 then B_X8_builtIn_112 N ro m (u0.2.2.1 3 t) a3 a4 w1 else bt (F_X9_refuse N 4 (u0.2.2.1 3 t) w1) fun _ u_21 => B_X8_builtIn_112 N ro m (u0.2.2.1 3 t) a3 a4 u_21) (fun y w => OFx (NOq v0 u0 n (i + 1) o l e) y w r x)) := by
    intro s2 hs
    subst hs
    unfold B_call_339
    by_cases z : Int32.ofNat k = mI v0 m 11
    · rw [if_pos z, if_pos z]
      obtain ⟨b1, b2⟩ := bi_same hE hB z hk
      refine pp_m (y_347 r2) (fun r x hx => k2_112 hE g1 (fun w2 g2 => Or.inr ⟨_, rfl, ?_, ?_, e, _, g2, hx.2, sfe_rf, rfl, hi⟩))
      · rw [b1, hx.1]
      · rw [b1]; exact b2
    · rw [if_neg z, if_neg z]
      refine jx_l (jx_ref ?_)
      unfold B_call_347
      refine pp_rd ?_
      rw [r2.row (by decide), hl1]
      exact y_bad hj r2 (by decide) (by decide) (fun _ _ => by repeat' (first | exact KP_some kp_rf | with_reducible refine KP_bn ?_ (fun _ _ => ?_) | with_reducible refine KP_if ?_ ?_ | with_reducible refine KP_rd (fun _ => ?_) | with_reducible refine KP_zr ?_ | (with_reducible refine KP_pu2 ?_ ?_; first | exact ks_sI (by decide) kp_rf | exact ks_sL kp_rf | exact ks_sA (by decide) kp_rf | exact ks_sB (by decide) kp_rf) | (with_reducible refine KP_wr2 ?_ ?_; first | exact ks_sA (by decide) kp_rf | exact ks_sB (by decide) kp_rf) | with_reducible exact h_ro _ _ _ _ | with_reducible exact sk_F_is | with_reducible exact sk_F_take | with_reducible exact sk_F_emit | with_reducible exact sk_F_wrong | with_reducible exact sk_F_cost | with_reducible exact sk_F_stuck | with_reducible exact sk_F_ends | with_reducible exact sk_F_begins | with_reducible exact sk_F_opens | with_reducible exact sk_F_has | with_reducible exact sk_F_isNumber | with_reducible exact sk_F_isNext | with_reducible exact sk_F_push | with_reducible exact sk_F_lead | with_reducible exact sk_F_here | with_reducible exact sk_F_kind | with_reducible exact sk_F_isKind | with_reducible exact sk_F_own | with_reducible exact sk_F_constant | with_reducible exact sk_F_bounded | with_reducible exact sk_F_joined | with_reducible exact sk_F_strength | with_reducible exact sk_F_leadAll | with_reducible exact sk_F_loop | with_reducible exact sk_F_label | with_reducible exact sk_F_leaves | with_reducible exact sk_F_telling | with_reducible exact sk_F_local | with_reducible exact sk_F_addSlot | with_reducible exact sk_F_addVariable | with_reducible exact sk_F_isTooWide | with_reducible exact sk_F_named | with_reducible exact sk_F_slotOf | with_reducible exact sk_F_bad | with_reducible exact sk_G_expression | with_reducible exact sk_G_spot | with_reducible exact sk_G_body | with_reducible exact sk_G_stat | (with_reducible refine sk_B_call_222 ?_ ?_ <;> assumption) | (with_reducible refine sk_B_call_206 ?_ ?_ <;> assumption) | (with_reducible refine sk_B_call_288 ?_ <;> assumption) | (with_reducible refine sk_B_call_400 ?_ <;> assumption) | (with_reducible refine sk_B_call_384 ?_ <;> assumption) | (with_reducible refine sk_B_call_379 ?_ <;> assumption) | (with_reducible refine sk_B_call_383 ?_ <;> assumption) | (with_reducible refine sk_B_call_373 ?_ <;> assumption) | (with_reducible refine sk_B_call_347 ?_ <;> assumption) | (with_reducible refine sk_B_call_339 ?_ <;> assumption) | (with_reducible refine sk_B_call_334 ?_ <;> assumption) | (with_reducible refine sk_B_call_123 ?_ ?_ <;> assumption) | (with_reducible refine sk_LP_call_123 ?_ _ _ <;> assumption) | (with_reducible refine sk_B_call_121 ?_ <;> assumption) | (with_reducible refine sk_B_call_120 ?_ <;> assumption) | (with_reducible refine sk_B_call_33 ?_ <;> assumption) | (with_reducible refine sk_B_call_32 ?_ <;> assumption) | (with_reducible refine sk_B_call_0 ?_ <;> assumption) | (with_reducible refine sk_F_call ?_ <;> assumption)))
  unfold B_call_334
  refine pp_if (fun z => main 1 (by rw [hE.1, if_pos (Or.inl z)])) (fun z => pp_if (fun z2 => main 2 (by rw [hE.1, if_neg (fun y => y.elim z (fun y => absurd z2 (Int32.not_le.mpr y)))])) (fun z2 => main 1 (by rw [hE.1, if_pos (Or.inr (Int32.not_le.mp z2))])))
/-- one argument -/
theorem j_bi1 {A : Int32 → CSt → Int32 → RSt → Prop} {k : Nat} (hV : EV2 v0 u0 n) (ho : o < 24) (hX : HX2 N v0 u0 n o l X) (h_R_123 : ∀ a, KP (R' a) a.2.2.2.2.2.2.2.2) (hD : X i (.inr j)) (hi : i ≤ n) (h : CE v0 v i l e) (h' : RE u0 u i (o + 1) l c) (h0 : 0 ≤ e.1.toInt) (h1 : e.1.toInt ≤ 10 * o + 10)
    (kk : ∀ b w x e' c', KD b → CE v0 w j l e' → RE u0 x j (o + 1) l c' → sfe e e' → j ≤ n → jx (R (m, p, (if Int32.ofNat k = 0 then b else a3), n_as a4 b, Int32.ofNat k + 1, w)) (B_call_222 N (FE_ N d') R' l1 (-1) l3 l4 (Int32.ofNat k) (if Int32.ofNat k = 0 then b else a6) (if Int32.ofNat k = 0 then a7 else b) x) A) :
    jx (B_X8_builtIn_54 N (FTE_ N d) R m p a3 a4 (Int32.ofNat k) v) (B_call_123 N (FE_ N d') R' l1 (-1) l3 l4 (Int32.ofNat k) a6 a7 1 u) A := by
  have hj := hV.2.2.2.2.1
  have h_ro : ∀ q a b u, KP (FE_ N d' q a b u) u := sk_FE_ d'
  unfold B_X8_builtIn_54 B_call_123
  rw [if_neg (by decide)]
  refine jx_r (y_rA h' (by decide) (jx_l ?_))
  refine jx_bt (hX ho d d' i j v u e c hD hi h h' h0 (by omega)) ?_ (fun _ _ => by repeat' (first | exact KP_some kp_rf | with_reducible refine KP_bn ?_ (fun _ _ => ?_) | with_reducible refine KP_if ?_ ?_ | with_reducible refine KP_rd (fun _ => ?_) | with_reducible refine KP_zr ?_ | (with_reducible refine KP_pu2 ?_ ?_; first | exact ks_sI (by decide) kp_rf | exact ks_sL kp_rf | exact ks_sA (by decide) kp_rf | exact ks_sB (by decide) kp_rf) | (with_reducible refine KP_wr2 ?_ ?_; first | exact ks_sA (by decide) kp_rf | exact ks_sB (by decide) kp_rf) | with_reducible exact h_ro _ _ _ _ | with_reducible exact sk_F_is | with_reducible exact sk_F_take | with_reducible exact sk_F_emit | with_reducible exact sk_F_wrong | with_reducible exact sk_F_cost | with_reducible exact sk_F_stuck | with_reducible exact sk_F_ends | with_reducible exact sk_F_begins | with_reducible exact sk_F_opens | with_reducible exact sk_F_has | with_reducible exact sk_F_isNumber | with_reducible exact sk_F_isNext | with_reducible exact sk_F_push | with_reducible exact sk_F_lead | with_reducible exact sk_F_here | with_reducible exact sk_F_kind | with_reducible exact sk_F_isKind | with_reducible exact sk_F_own | with_reducible exact sk_F_constant | with_reducible exact sk_F_bounded | with_reducible exact sk_F_joined | with_reducible exact sk_F_strength | with_reducible exact sk_F_leadAll | with_reducible exact sk_F_loop | with_reducible exact sk_F_label | with_reducible exact sk_F_leaves | with_reducible exact sk_F_telling | with_reducible exact sk_F_local | with_reducible exact sk_F_addSlot | with_reducible exact sk_F_addVariable | with_reducible exact sk_F_isTooWide | with_reducible exact sk_F_named | with_reducible exact sk_F_slotOf | with_reducible exact sk_F_bad | with_reducible exact sk_G_expression | with_reducible exact sk_G_spot | with_reducible exact sk_G_body | with_reducible exact sk_G_stat | (with_reducible refine sk_B_call_222 ?_ ?_ <;> assumption) | (with_reducible refine sk_B_call_206 ?_ ?_ <;> assumption) | (with_reducible refine sk_B_call_288 ?_ <;> assumption) | (with_reducible refine sk_B_call_400 ?_ <;> assumption) | (with_reducible refine sk_B_call_384 ?_ <;> assumption) | (with_reducible refine sk_B_call_379 ?_ <;> assumption) | (with_reducible refine sk_B_call_383 ?_ <;> assumption) | (with_reducible refine sk_B_call_373 ?_ <;> assumption) | (with_reducible refine sk_B_call_347 ?_ <;> assumption) | (with_reducible refine sk_B_call_339 ?_ <;> assumption) | (with_reducible refine sk_B_call_334 ?_ <;> assumption) | (with_reducible refine sk_B_call_123 ?_ ?_ <;> assumption) | (with_reducible refine sk_LP_call_123 ?_ _ _ <;> assumption) | (with_reducible refine sk_B_call_121 ?_ <;> assumption) | (with_reducible refine sk_B_call_120 ?_ <;> assumption) | (with_reducible refine sk_B_call_33 ?_ <;> assumption) | (with_reducible refine sk_B_call_32 ?_ <;> assumption) | (with_reducible refine sk_B_call_0 ?_ <;> assumption) | (with_reducible refine sk_F_call ?_ <;> assumption)))
  rintro b w r x ⟨⟨rfl, kd, e', c', g, r', s, cn⟩, hjn⟩
  have k2 := kk b w x e' c' kd g r' s hjn
  rw [if_neg (show ¬ x.1 69 = 0 by rw [r'.sc (by decide)]; exact hj), if_pos rfl]
  unfold B_call_206 B_X8_builtIn_71
  by_cases z : Int32.ofNat k = 0
  · rw [if_pos z, if_pos z]
    rw [if_pos z, if_pos z, if_pos z] at k2
    exact k2
  · rw [if_neg z, if_neg z]
    rw [if_neg z, if_neg z, if_neg z] at k2
    exact k2
theorem j_biT (hV : EV2 v0 u0 n) (ho : o < 24) (hX : HX2 N v0 u0 n o l X) (hPg : Pg X) (hE : EI v0 m l3) (hl1 : l1.toNatClampNeg = t) (hp : p = u0.2.2.1 3 t) :
    ∀ q i j k v u e c M M' l5 a3 a4 a6 a7, oWn (fun i => tyF v0 i = 44) (oN X) (oT (tyF v0) 41) q i (.inr j) → i ≤ n → k ≤ i → 1 ≤ k → l5 + 1 = Int32.ofNat k → BI k a3 a4 a6 a7 → CE v0 v i l e → RE u0 u i (o + 1) l c → 0 ≤ e.1.toInt → e.1.toInt ≤ 10 * o + 10 → jx (LP_X8_builtIn_22 N (FTE_ N d) M (m, p, a3, a4, Int32.ofNat k, v)) (B_call_222 N (FE_ N d') (LP_call_123 N (FE_ N d') M') l1 (-1) l3 l4 l5 a6 a7 u) (NOq v0 u0 n j o l e) := by
  have hn2 := hV.2.1.2.2
  have h_ro : ∀ q a b u, KP (FE_ N d' q a b u) u := sk_FE_ d'
  have e15 : (1500 : Int32).toInt = 1500 := by decide
  have e0 : (0 : Int32).toInt = 0 := by decide
  intro q
  induction q with
  | zero =>
    rintro i j k v u e c M M' l5 a3 a4 a6 a7 ⟨z, hD⟩ hi hki hk1 h5 hB h h' h0 h1
    obtain ⟨t1, rfl⟩ := oT_r hD
    have hil := hV.lt hi (by rw [t1]; exact nEnd (by decide) (by decide) (by decide))
    cases M with
    | zero => exact jx_n1 rfl
    | succ M =>
      show jx (B_X8_builtIn_22 N (FTE_ N d) (LP_X8_builtIn_22 N (FTE_ N d) M) m p a3 a4 (Int32.ofNat k) v) _ _
      unfold B_call_222
      refine jx_r (y_has hV.2.1 (t := 44) (by decide +kernel) (nEnd (by decide) (by decide) (by decide)) h' hi (fun y => absurd y z) (fun _ => ?_))
      rw [h5]
      refine jx_l ?_
      cases M' with
      | zero => exact jx_n2 rfl
      | succ M' =>
        show jx _ (B_call_123 N (FE_ N d') (LP_call_123 N (FE_ N d') M') l1 (-1) l3 l4 (Int32.ofNat k) a6 a7 0 u) _
        have fin := j_biE (N := N) (ro := FTE_ N d) (d' := d') (R' := LP_call_123 N (FE_ N d') M') (l4 := l4) (k := k) hV ho hE hB (by omega) hl1 hp hil t1 h h'
        unfold B_X8_builtIn_22
        exact pq_if (fun _ => fin) (fun _ => k2_if h (fun _ => fin) (fun y => absurd t1 y))
  | succ q ih =>
    rintro i j k v u e c M M' l5 a3 a4 a6 a7 ⟨z, hD⟩ hi hki hk1 h5 hB h h' h0 h1
    have z : tyF v0 i = 44 := z
    obtain ⟨k1, p1, p2⟩ := oS_r hD
    have hil := hV.lt hi (by rw [z]; exact nEnd (by decide) (by decide) (by decide))
    have ki := ofN_i (k := k) (by omega)
    cases M with
    | zero => exact jx_n1 rfl
    | succ M =>
      show jx (B_X8_builtIn_22 N (FTE_ N d) (LP_X8_builtIn_22 N (FTE_ N d) M) m p a3 a4 (Int32.ofNat k) v) _ _
      unfold B_call_222
      refine jx_r (y_has hV.2.1 (t := 44) (by decide +kernel) (nEnd (by decide) (by decide) (by decide)) h' hi (fun _ _ x1 r1 => ?_) (fun y => absurd z y))
      rw [h5]
      refine jx_l ?_
      cases M' with
      | zero => exact jx_n2 rfl
      | succ M' =>
        show jx _ (B_call_123 N (FE_ N d') (LP_call_123 N (FE_ N d') M') l1 (-1) l3 l4 (Int32.ofNat k) a6 a7 1 x1) _
        unfold B_X8_builtIn_22
        rw [if_neg (fun y => by have := Int32.le_iff_toInt_le.mp y; rw [e15] at this; omega)]
        refine k2_if h (fun y => by rw [z] at y; exact absurd y (by decide)) (fun _ => ?_)
        rw [if_neg (fun y => by have := Int32.le_iff_toInt_le.mp y; rw [e0] at this; omega)]
        refine k2_next hV.1 h hil (fun w1 g1 => ?_)
        have hgt := hPg _ _ p1
        refine j_bi1 hV ho hX (sk_LP_call_123 h_ro M') p1 hil g1 r1 h0 h1 ?_
        intro b w2 x2 e2 c2 kd g2 r2 s2 hk1n
        rw [ofN1 (by omega)]
        refine jx_m (ih k1 j (k + 1) w2 x2 e2 c2 M M' (Int32.ofNat k) _ _ _ _ p2 hk1n (by omega) (by omega) (ofN1 (by omega)) (BI_on hB kd (by omega)) g2 r2 (sfe_nn s2 h0) (sfe_lo s2 h1)) ?_
        rintro b w r x ⟨a1, b1, e3, c3, a2, a3, a4, a5⟩
        exact ⟨a1, b1, e3, c3, a2, a3, sfe_tr s2 a4, a5⟩
theorem j_biS {M : Nat} (hV : EV2 v0 u0 n) (ho : o < 24) (hX : HX2 N v0 u0 n o l X) (hPg : Pg X) (hE : EI v0 m l3) (hl1 : l1.toNatClampNeg = t) (hp : p = u0.2.2.1 3 t) (hD : oF (fun i => tyF v0 i = 41) (dAl (tyF v0) X) (oS X (dAl (tyF v0) X)) i (.inr j)) (hi : i ≤ n) (h : CE v0 v i l e) (h' : RE u0 u i (o + 1) l c) (h0 : 0 ≤ e.1.toInt) (h1 : e.1.toInt ≤ 10 * o + 10) : jx (LP_X8_builtIn_22 N (FTE_ N d) M (m, p, 3, 3, 0, v)) (bn (F_is N 224 u) fun r_63 u_62 => if r_63 = (0 : Int32) then (B_call_121 N (FE_ N d') l1 (-1) l3 l4 0 3 3 1 u_62) else (B_call_120 N (FE_ N d') l1 (-1) l3 l4 0 3 3 u_62)) (NOq v0 u0 n j o l e) := by
  have h_ro : ∀ q a b u, KP (FE_ N d' q a b u) u := sk_FE_ d'
  have hB0 : BI 0 3 3 3 3 := Or.inl ⟨rfl, rfl, rfl, rfl, rfl⟩
  cases M with
  | zero => exact jx_n1 rfl
  | succ M =>
    show jx (B_X8_builtIn_22 N (FTE_ N d) (LP_X8_builtIn_22 N (FTE_ N d) M) m p 3 3 0 v) _ _
    rcases oF_r hD with ⟨z, q⟩ | ⟨z, q⟩
    · have hil := hV.lt hi (by rw [z]; exact nEnd (by decide) (by decide) (by decide))
      rcases oW_r q with ⟨-, q2⟩ | ⟨q1, -⟩
      · obtain ⟨-, rfl⟩ := oT_r q2
        refine jx_r (y_is hV.2.1 (t := 41) (by decide +kernel) h' hi (fun _ => ?_) (fun y => absurd z y))
        rw [if_neg (by decide)]
        refine jx_l ?_
        have key : ∀ M', jx (B_X8_builtIn_22 N (FTE_ N d) (LP_X8_builtIn_22 N (FTE_ N d) M) m p 3 3 0 v) (LP_call_123 N (FE_ N d') M' (l1, -1, l3, l4, 0, 3, 3, 0, u)) (NOq v0 u0 n (i + 1) o l e) := by
          intro M'
          cases M' with
          | zero => exact jx_n2 rfl
          | succ M' =>
            show jx _ (B_call_123 N (FE_ N d') (LP_call_123 N (FE_ N d') M') l1 (-1) l3 l4 (Int32.ofNat 0) 3 3 0 u) _
            have fin := j_biE (N := N) (ro := FTE_ N d) (d' := d') (R' := LP_call_123 N (FE_ N d') M') (l4 := l4) (k := 0) hV ho hE hB0 (by omega) hl1 hp hil z h h'
            unfold B_X8_builtIn_22
            exact pq_if (fun _ => fin) (fun _ => k2_if h (fun _ => fin) (fun y => absurd z y))
        exact key N
      · rw [z] at q1
        exact absurd q1 (by decide)
    · obtain ⟨k1, p1, p2⟩ := oS_r q
      obtain ⟨q2, p2⟩ := p2
      refine jx_r (y_is hV.2.1 (t := 41) (by decide +kernel) h' hi (fun y => absurd y z) (fun _ => ?_))
      rw [if_pos rfl]
      refine jx_l ?_
      have key : ∀ M', jx (B_X8_builtIn_22 N (FTE_ N d) (LP_X8_builtIn_22 N (FTE_ N d) M) m p 3 3 0 v) (LP_call_123 N (FE_ N d') M' (l1, -1, l3, l4, 0, 3, 3, 1, u)) (NOq v0 u0 n j o l e) := by
        intro M'
        cases M' with
        | zero => exact jx_n2 rfl
        | succ M' =>
          show jx (B_X8_builtIn_22 N (FTE_ N d) (LP_X8_builtIn_22 N (FTE_ N d) M) m p 3 3 (Int32.ofNat 0) v) (B_call_123 N (FE_ N d') (LP_call_123 N (FE_ N d') M') l1 (-1) l3 l4 (Int32.ofNat 0) 3 3 1 u) _
          unfold B_X8_builtIn_22
          rw [if_neg (by decide)]
          refine k2_if h (fun y => absurd y z) (fun _ => ?_)
          rw [if_pos (by decide)]
          have hgt := hPg _ _ p1
          refine j_bi1 hV ho hX (sk_LP_call_123 h_ro M') p1 hi h h' h0 h1 ?_
          intro b w2 x2 e2 c2 kd g2 r2 s2 hk1n
          rw [ofN1 (by omega)]
          refine jx_m (j_biT hV ho hX hPg hE hl1 hp q2 k1 j (0 + 1) w2 x2 e2 c2 M M' (Int32.ofNat 0) _ _ _ _ p2 hk1n (by omega) (by omega) (ofN1 (by omega)) (BI_on hB0 kd (by omega)) g2 r2 (sfe_nn s2 h0) (sfe_lo s2 h1)) ?_
          rintro b w r x ⟨a1, b1, e3, c3, a2, a3, a4, a5⟩
          exact ⟨a1, b1, e3, c3, a2, a3, sfe_tr s2 a4, a5⟩
      exact key N
theorem MN_45 {s : Int32} {g : Int32 → Int32} (hM : MN v0 u0 n m s g) : (mI v0 m 2 = 4 ∧ ¬ g 4 = -1 ∧ PA v0 u0 m (24 * u0.1 56 + 8 + g 4).toNatClampNeg ∧ KD (mI v0 m 5) ∧ mI v0 m 5 = u0.2.2.1 33 (24 * u0.1 56 + 8 + g 4).toNatClampNeg) ∨ (mI v0 m 2 = 7 ∧ g 4 = -1 ∧ ¬ g 5 = -1 ∧ EI v0 m (g 5)) ∨ (¬ mI v0 m 2 = 4 ∧ ¬ mI v0 m 2 = 7 ∧ g 4 = -1 ∧ g 5 = -1) := by
  rcases hM with ⟨m1, m2, m3, m4⟩ | ⟨m1, m2, m3, m4, m5⟩ | ⟨m1, m2, m3, m4, m5⟩ | ⟨m1, m2, m3, m4⟩ | ⟨m1, m2, m3, m4⟩ | ⟨m1, m2, m3, m4, m5⟩ | ⟨m1, m2, m3, m4, m5⟩ | ⟨m1, m2, m3⟩
  · refine Or.inr (Or.inr ⟨?_, ?_, m2 4, m2 5⟩)
    · rcases m3 with z | z <;> (rw [z]; decide)
    · rcases m3 with z | z <;> (rw [z]; decide)
  · exact Or.inr (Or.inr ⟨by rw [m2]; decide, by rw [m2]; decide, m4 4 (by decide), m4 5 (by decide)⟩)
  · exact Or.inr (Or.inr ⟨by rw [m2]; decide, by rw [m2]; decide, m4 4 (by decide), m4 5 (by decide)⟩)
  · exact Or.inr (Or.inr ⟨by rw [m2]; decide, by rw [m2]; decide, m4 4 (by decide), m4 5 (by decide)⟩)
  · exact Or.inr (Or.inr ⟨by rw [m2]; decide, by rw [m2]; decide, m4 4 (by decide), m4 5 (by decide)⟩)
  · exact Or.inl ⟨m2, m3, m5⟩
  · exact Or.inr (Or.inl ⟨m2, m4 4 (by decide), m3, m5⟩)
  · exact Or.inr (Or.inr ⟨by rw [m2]; decide, by rw [m2]; decide, m3 4, m3 5⟩)
/-- a call as an operand -/
theorem j_call (hV : EV2 v0 u0 n) (ho : b → o < 24) (hX : HX2 N v0 u0 n o l X) (hPg : Pg X) (hD : dArg (tyF v0) b X (i + 1) (.inr j)) (h : CE v0 v i l e) (h' : RE u0 u i o l c) (hi : i < n) (ht : tyF v0 i = 128) (h0 : 0 ≤ e.1.toInt) (h1 : e.1.toInt ≤ 10 * o + 10) : jx (F_X8_called N (FTE_ N d) (cA v0 204 i) v) (F_call N (FE_ N d') u) (NOq v0 u0 n j o l e) := by
  have hn2 := hV.2.1.2.2
  have hj := hV.2.2.2.2.1
  have h_ro : ∀ q a b u, KP (FE_ N d' q a b u) u := sk_FE_ d'
  obtain ⟨k1, p1, p2⟩ := oS_r hD
  obtain ⟨t1, pb, rfl⟩ := oP_r p1
  have hi1 : i + 1 < n := hV.lt (i := i + 1) hi (by rw [t1]; exact nEnd (by decide) (by decide) (by decide))
  have ho2 := ho pb
  obtain ⟨m, s, g, hm, hK, hM⟩ := hV.2.2.2.2.2.2 i hi ht
  have hpl := hV.pl (Nat.le_of_lt hi)
  have hl1 : (u.1 65).toNatClampNeg = i := h'.nat
  unfold F_X8_called B_X8_called_0
  refine k2_known hK h (pq_ok (fun _ => ?_))
  rw [h.nm]
  have ref : ∀ {A : Int32 → CSt → Int32 → RSt → Prop} {C : Option (Sum Nat Int32 × CSt)}, ¬ (g 4 = -1 ∧ g 5 = -1) → (∀ y, RE u0 y (i + 2) (o + 1) l c → jx C (bn (F_is N 224 y) fun r_63 u_62 => if r_63 = (0 : Int32) then (B_call_121 N (FE_ N d') (u.1 65) (g 4) (g 5) (24 * u0.1 56 + 8 + g 4) 0 3 3 1 u_62) else (B_call_120 N (FE_ N d') (u.1 65) (g 4) (g 5) (24 * u0.1 56 + 8 + g 4) 0 3 3 u_62)) A) → jx C (F_call N (FE_ N d') u) A := by
    intro A C hg hC
    refine jx_r ?_
    have h33 : pp (B_call_33 N (FE_ N d') (u.1 65) (g 4) (g 5) 0 u) (fun r x => pq C (fun y w => OFx A y w r x)) := by
      unfold B_call_33
      refine y_rA h' (by decide) (y_ok rfl (y_rA h' (by decide) (y_cost h' (fun x1 r1 => y_adv r1 (by omega) (fun x2 r2 => ?_)))))
      rw [r2.sc (k := 56) (by decide)]
      refine y_begins hV.2.1 (t := 40) (by decide +kernel) r2 hi1 t1 ho2 (fun x3 r3 => ?_)
      rw [if_pos r3.2.1]
      exact jx_l (hC x3 r3)
    unfold F_call B_call_0 B_call_32
    refine y_own hK h' (y_own hK h' ?_)
    refine pp_if (fun z => ?_) (fun z => h33)
    rw [if_neg (fun y => hg ⟨z, y⟩)]
    exact h33
  rcases MN_45 hM with ⟨m1, m2, m3, m4, m5⟩ | ⟨m1, m2, m3, m4⟩ | ⟨m1, m2, m3, m4⟩
  · rw [if_pos m1]
    unfold B_X8_called_31
    refine pq_ok (fun _ => k2_cost h (fun w1 g1 => ?_))
    rw [g1.nm, if_neg (by rw [m1]; decide)]
    refine ref (fun y => m2 y.1) (fun y hy => ?_)
    refine jx_btp (A := AGq v0 u0 n j o l e (24 * u0.1 56 + 8 + g 4)) ?_ ?_
    · cases d with
      | zero => exact jx_n1 rfl
      | succ d =>
        show jx (F_X8_arguments N (FTE_ N d) m (-1) (cA v0 204 i) w1) _ _
        unfold F_X8_arguments B_X8_arguments_0
        refine k2_next hV.1 g1 hi (fun w2 g2 => k2_next hV.1 g2 hi1 (fun w3 g3 => ?_))
        exact j_argsS hV ho2 hX hPg m3 m2 hl1 hpl p2 hi1 g3 hy h0 h1
    · rintro b2 w2 r2 x2 ⟨a1, e', c', g2, r2, s2, c0, hjn⟩
      refine pq_ok (fun _ => k2_step g2 (fun _ w3 g3 => pq_some (Or.inr ⟨_, rfl, ?_, ?_, e', c', g3, r2, s2, c0, hjn⟩)))
      · rw [g3.nm, a1]; exact m5
      · rw [g3.nm]; exact m4
  · rw [if_neg (by rw [m1]; decide), if_pos m1]
    unfold B_X8_called_31
    refine pq_ok (fun _ => k2_cost h (fun w1 g1 => ?_))
    rw [g1.nm, if_pos m1]
    refine ref (fun y => m3 y.2) (fun y hy => ?_)
    refine jx_btl (A := NOq v0 u0 n j o l e) ?_ (fun _ _ _ _ hq => hq)
    rw [m2]
    cases d with
    | zero => exact jx_n1 rfl
    | succ d =>
      show jx (F_X8_builtIn N (FTE_ N d) m (cA v0 204 i) w1) _ _
      unfold F_X8_builtIn B_X8_builtIn_0
      refine k2_next hV.1 g1 hi (fun w2 g2 => k2_next hV.1 g2 hi1 (fun w3 g3 => ?_))
      exact j_biS hV ho2 hX hPg m4 hl1 hpl p2 hi1 g3 hy h0 h1
  · rw [if_neg m1, if_neg m2]
    refine jx_ref ?_
    unfold F_call B_call_0
    refine y_own hK h' (y_own hK h' ?_)
    rw [if_pos m3, if_pos m4]
    unfold B_call_33
    refine y_rA h' (by decide) ?_
    rw [hpl]
    exact y_bad hj h' (by decide) (by decide) (fun _ _ => by repeat' (first | exact KP_some kp_rf | with_reducible refine KP_bn ?_ (fun _ _ => ?_) | with_reducible refine KP_if ?_ ?_ | with_reducible refine KP_rd (fun _ => ?_) | with_reducible refine KP_zr ?_ | (with_reducible refine KP_pu2 ?_ ?_; first | exact ks_sI (by decide) kp_rf | exact ks_sL kp_rf | exact ks_sA (by decide) kp_rf | exact ks_sB (by decide) kp_rf) | (with_reducible refine KP_wr2 ?_ ?_; first | exact ks_sA (by decide) kp_rf | exact ks_sB (by decide) kp_rf) | with_reducible exact h_ro _ _ _ _ | with_reducible exact sk_F_is | with_reducible exact sk_F_take | with_reducible exact sk_F_emit | with_reducible exact sk_F_wrong | with_reducible exact sk_F_cost | with_reducible exact sk_F_stuck | with_reducible exact sk_F_ends | with_reducible exact sk_F_begins | with_reducible exact sk_F_opens | with_reducible exact sk_F_has | with_reducible exact sk_F_isNumber | with_reducible exact sk_F_isNext | with_reducible exact sk_F_push | with_reducible exact sk_F_lead | with_reducible exact sk_F_here | with_reducible exact sk_F_kind | with_reducible exact sk_F_isKind | with_reducible exact sk_F_own | with_reducible exact sk_F_constant | with_reducible exact sk_F_bounded | with_reducible exact sk_F_joined | with_reducible exact sk_F_strength | with_reducible exact sk_F_leadAll | with_reducible exact sk_F_loop | with_reducible exact sk_F_label | with_reducible exact sk_F_leaves | with_reducible exact sk_F_telling | with_reducible exact sk_F_local | with_reducible exact sk_F_addSlot | with_reducible exact sk_F_addVariable | with_reducible exact sk_F_isTooWide | with_reducible exact sk_F_named | with_reducible exact sk_F_slotOf | with_reducible exact sk_F_bad | with_reducible exact sk_G_expression | with_reducible exact sk_G_spot | with_reducible exact sk_G_body | with_reducible exact sk_G_stat | (with_reducible refine sk_B_call_222 ?_ ?_ <;> assumption) | (with_reducible refine sk_B_call_206 ?_ ?_ <;> assumption) | (with_reducible refine sk_B_call_288 ?_ <;> assumption) | (with_reducible refine sk_B_call_400 ?_ <;> assumption) | (with_reducible refine sk_B_call_384 ?_ <;> assumption) | (with_reducible refine sk_B_call_379 ?_ <;> assumption) | (with_reducible refine sk_B_call_383 ?_ <;> assumption) | (with_reducible refine sk_B_call_373 ?_ <;> assumption) | (with_reducible refine sk_B_call_347 ?_ <;> assumption) | (with_reducible refine sk_B_call_339 ?_ <;> assumption) | (with_reducible refine sk_B_call_334 ?_ <;> assumption) | (with_reducible refine sk_B_call_123 ?_ ?_ <;> assumption) | (with_reducible refine sk_LP_call_123 ?_ _ _ <;> assumption) | (with_reducible refine sk_B_call_121 ?_ <;> assumption) | (with_reducible refine sk_B_call_120 ?_ <;> assumption) | (with_reducible refine sk_B_call_33 ?_ <;> assumption) | (with_reducible refine sk_B_call_32 ?_ <;> assumption) | (with_reducible refine sk_B_call_0 ?_ <;> assumption) | (with_reducible refine sk_F_call ?_ <;> assumption)))
end Bi
