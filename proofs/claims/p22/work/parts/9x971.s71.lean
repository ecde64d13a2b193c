/-! load: class and reference name the same place. -/
def n8 : List (List Int32) := [[97, 98, 115], [109, 105, 110], [109, 97, 120], [114, 111, 108], [114, 111, 114], [114, 101, 118], [111, 110, 101, 115], [108, 101, 97, 100]]
def q8 : List Nat := [3, 7, 11, 15, 19, 23, 28, 33]
def ea : Nat → Int64
  | 0 => 0
  | p + 1 => if ch_2 p = 32 then 0 else r_half (ea p) (ch_2 p)
/-- the eight and the unknown name, in both programs of the class -/
def CB8 (v : CSt) : Prop := ∀ q, q < 2 → mI v (169 * q + 168) 2 = 8 ∧ mI v (169 * q + 168) 12 = 0 ∧ mI v (169 * q + 168) 3 = -1 ∧ ∀ k, k < 8 → mI v (169 * q + (160 + k)) 2 = 7 ∧ mL v (169 * q + (160 + k)) 0 = pkL (n8.getD k []) ∧ EI v (169 * q + (160 + k)) (Int32.ofNat k)
/-- the bytes fed, and the words -/
def J4 (v : CSt) (u : RSt) : Prop := WT v ∧ CB8 v ∧ ∃ by_ len, BY by_ len ∧ (cI v 0).toInt = (len : Int) ∧ (∀ p, p < len → cA v 201 p &&& 255 = by_ p) ∧ BR by_ len u
def J5 (v : CSt) (u : RSt) : Prop := J4 v u ∧ cI v 7 = u.1 106
section Load1
variable {v w : CSt} {u x : RSt} {N n q s : Nat} {l1 l2 : Int32}
theorem CB8.fr (h : CB8 v) (hn : n8s v w) : CB8 w := by
  intro q hq
  obtain ⟨a1, a2, a3, a4⟩ := h q hq
  have m8 : 160 ≤ (169 * q + 168) % 169 := by omega
  refine ⟨by rw [(hn _ 2 m8).1]; exact a1, by rw [(hn _ 12 m8).1]; exact a2, by rw [(hn _ 3 m8).1]; exact a3, fun k hk => ?_⟩
  have mk : 160 ≤ (169 * q + (160 + k)) % 169 := by omega
  obtain ⟨b1, b2, b3⟩ := a4 k hk
  refine ⟨by rw [(hn _ 2 mk).1]; exact b1, by rw [(hn _ 0 mk).2]; exact b2, ?_⟩
  unfold EI at b3 ⊢
  rw [(hn _ 11 mk).1, (hn _ 4 mk).1]
  exact b3
theorem ea_8 : ∀ k, k < 8 → q8.getD k 0 < 34 ∧ ch_2 (q8.getD k 0) = 32 ∧ bz (q8.getD k 0) = k ∧ ea (q8.getD k 0) = pkL (n8.getD k []) := by decide +kernel
theorem ok_8 : ∀ k, k < 8 → (n8.getD k []).length ≤ 12 ∧ (∀ c ∈ n8.getD k [], 0 < c.toInt ∧ c.toInt < 128) ∧ pkL ((n8.getD k []).take 8) = pkL (n8.getD k []) ∧ pkS ((n8.getD k []).drop 8) = 0 ∧ pkL ((n8.getD k []).take 6) = pkL (n8.getD k []) ∧ pkL ((n8.getD k []).drop 6) = 0 := by decide +kernel
theorem df_8 : ∀ k, k < 8 → ∀ k', k' < 8 → pkL (n8.getD k []) = pkL (n8.getD k' []) → k = k' := by decide +kernel
theorem NmR8 {k : Nat} (hk : k < 8) : NmR (pkL (n8.getD k [])) 0 (pkL (n8.getD k [])) 0 := by
  obtain ⟨a1, a2, a3, a4, a5, a6⟩ := ok_8 k hk
  exact ⟨n8.getD k [], a1, a2, a3.symm, a4.symm, a5.symm, a6.symm⟩
theorem bz_lt {p k : Nat} (h : p < k) (hc : ch_2 p = 32) : bz p < bz k := by
  have mono : ∀ n, bz (p + 1) ≤ bz (p + 1 + n) := by
    intro n
    induction n with
    | zero => exact Nat.le_refl _
    | succ n ih =>
      have := bz_s (p + 1 + n)
      rw [show p + 1 + (n + 1) = p + 1 + n + 1 by omega, this]
      omega
  have h1 := mono (k - (p + 1))
  rw [show p + 1 + (k - (p + 1)) = k by omega] at h1
  have hb := bz_s p
  rw [if_pos hc] at hb
  omega
theorem y_eight : pp (F_eight N u) (fun _ w => ∀ p, p < 34 → ch_2 p = 32 → w.2.2.2 57 (bz p) = ea p ∧ w.2.2.2 58 (bz p) = 0) := by
  have e1 : (1 : Int32).toInt = 1 := by decide
  have e34 : (34 : Int32).toInt = 34 := by decide
  unfold F_eight B_eight_0
  refine pp_pu ?_
  unfold LP_eight_9
  refine pp_lp (Z := fun _ _ w => ∀ p, p < 34 → ch_2 p = 32 → w.2.2.2 57 (bz p) = ea p ∧ w.2.2.2 58 (bz p) = 0) (fun (x : Int64 × Int32 × RSt) => 0 ≤ x.2.1.toInt ∧ x.2.1.toInt ≤ 34 ∧ x.1 = ea x.2.1.toInt.toNat ∧ (x.2.2.1 61).toInt = bz x.2.1.toInt.toNat ∧ ∀ p, p < x.2.1.toInt.toNat → ch_2 p = 32 → x.2.2.2.2.2 57 (bz p) = ea p ∧ x.2.2.2.2.2 58 (bz p) = 0) ?_ N _ ⟨by show 0 ≤ (0 : Int32).toInt; decide, by show (0 : Int32).toInt ≤ 34; decide, rfl, by show (0 : Int32).toInt = (0 : Nat); decide, fun p hp => absurd (show p < 0 from hp) (Nat.not_lt_zero p)⟩
  rintro R ⟨m1, m3, z⟩ ⟨q1, q2, q3, q4, q5⟩ ih
  dsimp only at q1 q2 q3 q4 q5 ⊢
  unfold B_eight_9
  refine pp_if (fun cc => ?_) (fun cc => ?_)
  · have c1 := Int32.le_iff_toInt_le.mp cc
    rw [e34] at c1
    have en : m3.toInt.toNat = 34 := by omega
    rw [en] at q5
    exact pp_some q5
  · have c1 := Int32.lt_iff_toInt_lt.mp (Int32.not_le.mp cc)
    rw [e34] at c1
    have el : (m3 + 1).toInt = m3.toInt + 1 := by rw [tI_add (by rw [e1]; omega) (by rw [e1]; omega), e1]
    have en : (m3 + 1).toInt.toNat = m3.toInt.toNat + 1 := by omega
    have hb := bz_s m3.toInt.toNat
    have hm := bz_m (k := m3.toInt.toNat) (by omega)
    have mn : m3.toNatClampNeg = m3.toInt.toNat := rfl
    refine pp_rd (pp_if (fun g => ?_) (fun g => pp_rd ?_))
    · rw [mn] at g
      rw [if_pos g] at hb
      refine pp_wr (pp_wr (pp_wr (pp_wr (pp_pu ?_))))
      have e61 : (z.1 61 + 1).toInt = (z.1 61).toInt + 1 := by rw [tI_add (by rw [e1]; omega) (by rw [e1]; omega), e1]
      have n61 : (z.1 61).toNatClampNeg = bz m3.toInt.toNat := by show (z.1 61).toInt.toNat = _; omega
      unfold B_eight_101
      refine ih _ ⟨?_, ?_, ?_, ?_, fun p hp hc => ?_⟩
      · show 0 ≤ (m3 + 1).toInt
        omega
      · show (m3 + 1).toInt ≤ 34
        omega
      · show (0 : Int64) = ea (m3 + 1).toInt.toNat
        rw [en]
        show 0 = (if ch_2 m3.toInt.toNat = 32 then 0 else r_half (ea m3.toInt.toNat) (ch_2 m3.toInt.toNat))
        rw [if_pos g]
      · show (z.1 61 + 1).toInt = (bz (m3 + 1).toInt.toNat : Nat)
        rw [en, hb]
        omega
      · have hp : p < (m3 + 1).toInt.toNat := hp
        rw [en] at hp
        show vp_updL (z.2.2.2 57) (z.1 61).toNatClampNeg m1 (bz p) = ea p ∧ vp_updL (z.2.2.2 58) (z.1 61).toNatClampNeg 0 (bz p) = 0
        unfold vp_updL
        rw [n61]
        rcases Nat.lt_or_eq_of_le (Nat.le_of_lt_succ hp) with z1 | z1
        · have := bz_lt z1 hc
          rw [if_neg (by omega), if_neg (by omega)]
          exact q5 p z1 hc
        · rw [z1, if_pos rfl, if_pos rfl]
          exact ⟨q3, rfl⟩
    · rw [mn] at g
      rw [if_neg g] at hb
      unfold B_eight_101
      refine ih _ ⟨?_, ?_, ?_, ?_, fun p hp hc => ?_⟩
      · show 0 ≤ (m3 + 1).toInt
        omega
      · show (m3 + 1).toInt ≤ 34
        omega
      · show r_half m1 (ch_2 m3.toNatClampNeg) = ea (m3 + 1).toInt.toNat
        rw [en, mn, q3]
        show _ = (if ch_2 m3.toInt.toNat = 32 then 0 else r_half (ea m3.toInt.toNat) (ch_2 m3.toInt.toNat))
        rw [if_neg g]
      · show (z.1 61).toInt = (bz (m3 + 1).toInt.toNat : Nat)
        rw [en, hb]
        omega
      · have hp : p < (m3 + 1).toInt.toNat := hp
        rw [en] at hp
        rcases Nat.lt_or_eq_of_le (Nat.le_of_lt_succ hp) with z1 | z1
        · exact q5 p z1 hc
        · exact absurd (by rw [← z1]; exact hc) g
/-- the eight names of both -/
theorem TR8_0 (h : CB8 v) (hq : q < 2) (h1 : ∀ g : Nat, g < 8 → u.2.2.1 59 g = 5 ∧ (u.2.2.1 60 g).toInt = g) (h2 : ∀ p, p < 34 → ch_2 p = 32 → u.2.2.2 57 (bz p) = ea p ∧ u.2.2.2 58 (bz p) = 0) : TR8 v u q := by
  obtain ⟨a1, a2, a3, a4⟩ := h q hq
  have em : (-1 : Int32).toInt = -1 := by decide
  refine ⟨a1, a2, by rw [a3, em]; exact Int.le_refl _, by rw [a3, em]; decide, fun k hk => ?_, fun k k' hk hk' e => ?_⟩
  · obtain ⟨b1, b2, b3⟩ := a4 k hk
    obtain ⟨c1, c2, c3, c4⟩ := ea_8 k hk
    obtain ⟨d1, d2⟩ := h2 _ c1 c2
    rw [c3] at d1 d2
    rw [c4] at d1
    obtain ⟨g1, g2⟩ := h1 k hk
    refine ⟨b1, ?_, g1, tI_eq.mpr (by rw [g2, Int32.toInt_ofNat_of_lt (by omega)]), b3⟩
    rw [b2, d1, d2]
    exact NmR8 hk
  · rw [(a4 k hk).2.1, (a4 k' hk').2.1] at e
    exact df_8 k hk k' hk' e
/-- reading the tape -/
def RDc (v w : CSt) : Prop := (∀ k, k ∉ [3, 4, 5, 6, 7] → cI w k = cI v k) ∧ (∀ k, k ≠ 203 → k ≠ 204 → k ≠ 206 → cA w k = cA v k) ∧ (∀ k, k ≠ 205 → cB w k = cB v k) ∧ w.2.2.2.2 = v.2.2.2.2
theorem read_same {by_ : Nat → Int32} {len : Nat} (hY : BY by_ len) (h0 : l1.toInt = (len : Int)) (hb : ∀ p, p < len → cA v 201 p &&& 255 = by_ p) (hW : WT v) (hR : BR by_ len u) : pq (F_X9_read N l1 v) (fun _ w => pp (F_cutAll N u) (fun _ x => CUT w x ∧ cI w 7 = -1 ∧ RFs u x ∧ RDc v w)) := by
  unfold F_X9_read B_X9_read_0
  refine pq_pc (pq_pc (pq_pc (pq_pc (pq_pc ?_))))
  have hC : BC by_ len (xI (xI (xI (xI (xI v 3 l1) 4 0) 5 0) 6 0) 7 (-1)) := ⟨h0, hb⟩
  have hW' : WT (xI (xI (xI (xI (xI v 3 l1) 4 0) 5 0) 6 0) 7 (-1)) := hW
  have h4 : (cI (xI (xI (xI (xI (xI v 3 l1) 4 0) 5 0) 6 0) 7 (-1)) 4).toInt = ((0 : Nat) : Int) := by show (0 : Int32).toInt = 0; decide
  have h7 : cI (xI (xI (xI (xI (xI v 3 l1) 4 0) 5 0) 6 0) 7 (-1)) 7 = -1 := rfl
  have hf : RDc v (xI (xI (xI (xI (xI v 3 l1) 4 0) 5 0) 6 0) 7 (-1)) := by
    refine ⟨fun k hk => ?_, fun _ _ _ _ => rfl, fun _ _ => rfl, rfl⟩
    simp only [List.mem_cons, List.not_mem_nil, or_false, not_or] at hk
    show (xI (xI (xI (xI (xI v 3 l1) 4 0) 5 0) 6 0) 7 (-1)).1 k = v.1 k
    rw [xI_1, if_neg hk.2.2.2.2, xI_1, if_neg hk.2.2.2.1, xI_1, if_neg hk.2.2.1, xI_1, if_neg hk.2.1, xI_1, if_neg hk.1]
  generalize xI (xI (xI (xI (xI v 3 l1) 4 0) 5 0) 6 0) 7 (-1) = v1 at hC hW' h4 h7 hf ⊢
  refine pq_bc (pq_m (c_gap hY hC (show (0 : Int32).toInt = ((0 : Nat) : Int) by decide) (Nat.zero_le _)) (fun r w hw => ?_))
  obtain ⟨e, p, hp, hg⟩ := hw
  rw [e]
  refine pq_m (cut_loop hY N N v1 (sI u 8 0) 0 0 p r 0 0 hC hW' (hR.fr RFs.s) h4 (by show (0 : Int32).toInt = ((0 : Nat) : Int); decide) (by omega) (by decide) hp hg (by decide) (Nat.zero_le _) (fun i hi => absurd hi (Nat.not_lt_zero i))) (fun _ w1 h1 => ?_)
  unfold F_cutAll B_cutAll_0
  refine pp_pu (pp_m h1 (fun _ x hx => ?_))
  obtain ⟨f1, f2, f3⟩ := hx
  refine ⟨f3, (f1.1 7 (by decide)).trans h7, RFs.s.tr f2, fun k hk => ?_, fun k a b c => (f1.2.2.1 k a b c).trans (hf.2.1 k a b c), fun k a => (f1.2.2.2.1 k a).trans (hf.2.2.1 k a), f1.2.2.2.2.trans hf.2.2.2⟩
  refine (f1.1 k (fun z => hk (by rw [z]; decide))).trans (hf.1 k hk)
/-- the state before the first Item -/
theorem IT_0 (hE : EV1 v u n) (c5 : (cI v 5).toInt = 0) (c13 : (cI v 13).toInt = 0) (c16 : cI v 16 = 0) (r67 : u.1 67 = 0) (r65 : (u.1 65).toInt = 0) (r66 : (u.1 66).toInt = 0) (r74 : (u.1 74).toInt = 0) (h12 : pI v q 12 = 0) (h62 : u.1 62 = 0) (h61 : u.1 61 = 8) (h56 : (u.1 56).toInt = s) (hs : s < 2) (hq : q < 2) (R2 : cR v 2 = q) (R3 : cR v 3 = q) (h8 : TR8 v u q) (hz : ∀ k, k ∈ [19, 27, 36, 37, 42, 48] → u.2.2.1 k s = 0) (p9 : ∀ k, k < 5 → pA v q 9 k = 0) (a2 : ∀ k, k < 5 → cA v 228 k = 0) (r64 : ∀ k, k < 5 → u.2.2.1 64 k = 0) (c12 : cI v 12 = 0) (r63 : u.1 63 = 0) : IT v u q s n 0 0 0 8 := by
  have e0 : (0 : Int32).toInt = 0 := by decide
  have nx : ∀ {P : Prop} {x : Nat}, x < 0 → P := fun h => absurd h (Nat.not_lt_zero _)
  refine ⟨hE, ⟨cfr_rf, c5, c13, rfl⟩, ⟨rfr_rf, r67, r65, r66, r74, rfl⟩, c16, ?_, ?_⟩
  · refine ⟨by rw [h12, e0]; rfl, by omega, by rw [h62, h12], by rw [h61]; decide, by omega, by omega, h56, hs, hq, R2, R3, fun x hx => nx hx, fun x hx => nx hx, ⟨fun x hx => nx hx, fun y h1 h2 => absurd h1 (by omega), fun x x' hx => nx hx, fun x hx => nx hx⟩, h8, fun x hx => nx hx, fun x hx => nx hx, fun x hx => nx hx⟩
  · have z19 := hz 19 (by decide)
    have z27 := hz 27 (by decide)
    have z36 := hz 36 (by decide)
    have z37 := hz 37 (by decide)
    have z42 := hz 42 (by decide)
    have z48 := hz 48 (by decide)
    refine ⟨⟨fun y hy => nx hy, fun so hso k hk => ?_⟩, ?_, ⟨fun k hk => ?_, by rw [c12, r63], ?_⟩, fun y hy => nx hy, fun y hy => nx hy, fun k hk => ?_, fun r hr => nx hr⟩
    · rw [p9 so (by omega), e0] at hk
      omega
    · unfold CTN
      rw [p9 0 (by decide), p9 1 (by decide), p9 2 (by decide), p9 3 (by decide), p9 4 (by decide), z19, z27, z36, z37, z42, z48, e0]
      exact ⟨rfl, rfl, rfl, rfl, rfl, ⟨by decide, by decide⟩, ⟨by decide, by decide⟩, ⟨by decide, by decide⟩, ⟨by decide, by decide⟩, ⟨by decide, by decide⟩, ⟨by decide, by decide⟩⟩
    · rw [a2 k hk, r64 k hk, e0]
      exact ⟨rfl, by decide, by decide⟩
    · rw [c12, a2 0 (by decide), a2 1 (by decide), a2 2 (by decide), a2 3 (by decide), a2 4 (by decide), e0]
      rfl
    · rw [z48, e0] at hk
      omega
end Load1
section Load2
variable {v w : CSt} {u x : RSt} {N n q s : Nat} {l1 l2 : Int32}
theorem pp_of {β : Type} {X : Option (β × RSt)} {Q : β → RSt → Prop} (h : wp X Q) : pp X Q := by
  obtain ⟨r, w, e, hq⟩ := h
  intro r' w' e'
  rw [e] at e'
  cases e'
  exact hq
theorem pq_of {β : Type} {X : Option (β × CSt)} {Q : β → CSt → Prop} (h : wq X Q) : pq X Q := by
  obtain ⟨r, w, e, hq⟩ := h
  intro r' w' e'
  rw [e] at e'
  cases e'
  exact hq
theorem pp_and {β : Type} {X : Option (β × RSt)} {Q Q' : β → RSt → Prop} (h : pp X Q) (h2 : pp X Q') : pp X (fun r w => Q r w ∧ Q' r w) := fun r w e => ⟨h r w e, h2 r w e⟩
theorem pq_bh {α β : Type} {X : Option (Sum Nat α × CSt)} {kc : CSt → Option (β × CSt)} {k : α → CSt → Option (β × CSt)} {Q : β → CSt → Prop} (h : pq X (fun y w => (y = .inl 0 → pq (kc w) Q) ∧ (∀ b, y = .inr b → pq (k b w) Q))) : pq (bh X kc k) Q := by
  intro r z e
  obtain ⟨y1, w1, e1, ⟨f, e2⟩ | ⟨b, f, e2⟩⟩ := bh_of e
  · exact (h _ _ e1).1 f _ _ e2
  · exact (h _ _ e1).2 b f _ _ e2
/-- the one's run may be looked at first, or the other's -/
theorem pq_sw {α β : Type} {X : Option (α × CSt)} {Y : Option (β × RSt)} {Q : α → CSt → β → RSt → Prop} (h : pp Y (fun r x => pq X (fun y w => Q y w r x))) : pq X (fun y w => pp Y (fun r x => Q y w r x)) := fun y w e r x e' => h r x e' y w e
theorem pp_sw {α β : Type} {X : Option (α × CSt)} {Y : Option (β × RSt)} {Q : α → CSt → β → RSt → Prop} (h : pq X (fun y w => pp Y (fun r x => Q y w r x))) : pp Y (fun r x => pq X (fun y w => Q y w r x)) := fun r x e' y w e => h y w e r x e'
theorem y_150f (h : ¬ x.1 67 = 0) : pp (B_load_150 N l1 x) (fun _ z => z.1 106 = x.1 68) := by
  unfold B_load_150 B_load_171
  refine pp_pu ?_
  rw [if_neg (show ¬ (sI x 1 0).1 67 = 0 from h)]
  refine pp_pu ?_
  rw [if_neg (show ¬ (sI (sI x 1 0) 106 ((sI x 1 0).1 68)).1 67 = 0 from h)]
  exact pp_some rfl
theorem y_150s (h : x.1 67 = 0) : pp (B_load_150 N l1 x) (fun _ z => z.1 106 = -1) := by
  unfold B_load_150 B_load_171
  refine pp_pu ?_
  rw [if_pos (show (sI x 1 0).1 67 = 0 from h)]
  refine pp_pu ?_
  rw [if_pos (show (sI (sI x 1 0) 106 (-1)).1 67 = 0 from h)]
  refine pp_bn (fun r z e => ?_)
  have := (kr_F_accept (u := sI (sI x 1 0) 106 (-1)) _ _ e).2.1
  exact pp_some (this.trans rfl)
/-- the numbers are set to 0 -/
theorem y_123 {Q : Int32 → RSt → Prop} (kk : ∀ z, FX [] [64] [] u z → (∀ k, k < 5 → z.2.2.1 64 k = 0) → pp (bn (F_eight N z) fun _ u_7 => bn (F_goThrough N 1 u_7) fun _ u_8 => B_load_150 N l1 u_8) Q) : pp (LP_load_123 N N (l1, 0, u)) Q := by
  have e1 : (1 : Int32).toInt = 1 := by decide
  have e5 : (5 : Int32).toInt = 5 := by decide
  unfold LP_load_123
  refine pp_lp (Z := fun _ => Q) (fun (a : Int32 × Int32 × RSt) => a.1 = l1 ∧ 0 ≤ a.2.1.toInt ∧ a.2.1.toInt ≤ 5 ∧ FX [] [64] [] u a.2.2 ∧ ∀ k, k < a.2.1.toInt.toNat → a.2.2.2.2.1 64 k = 0) ?_ N _ ⟨rfl, by show 0 ≤ (0 : Int32).toInt; decide, by show (0 : Int32).toInt ≤ 5; decide, FX.rf, fun k hk => absurd (show k < 0 from hk) (Nat.not_lt_zero k)⟩
  rintro R ⟨m1, m2, z⟩ ⟨q0, q1, q2, q3, q4⟩ ih
  dsimp only at q0 q1 q2 q3 q4 ⊢
  unfold B_load_123
  refine pp_if (fun cc => ?_) (fun cc => ?_)
  · have c1 := Int32.le_iff_toInt_le.mp cc
    rw [e5] at c1
    rw [q0]
    exact kk z q3 (fun k hk => q4 k (by omega))
  · have c1 := Int32.lt_iff_toInt_lt.mp (Int32.not_le.mp cc)
    rw [e5] at c1
    have el : (m2 + 1).toInt = m2.toInt + 1 := by rw [tI_add (by rw [e1]; omega) (by rw [e1]; omega), e1]
    refine pp_wr (ih _ ⟨q0, ?_, ?_, q3.sa (by decide), fun k hk => ?_⟩)
    · show 0 ≤ (m2 + 1).toInt
      omega
    · show (m2 + 1).toInt ≤ 5
      omega
    · have hk : k < (m2 + 1).toInt.toNat := hk
      have mn : m2.toNatClampNeg = m2.toInt.toNat := rfl
      show upd (z.2.2.1 64) m2.toNatClampNeg 0 k = 0
      unfold upd
      by_cases c : k = m2.toNatClampNeg
      · rw [if_pos c]
      · rw [if_neg c]
        exact q4 k (by omega)
end Load2
