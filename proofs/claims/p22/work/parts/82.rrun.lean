/-! The reference's run over typed code ends, and changes but its own cells. -/
def RFR (u w : RSt) : Prop := (∀ k, k < 112 ∨ 119 < k → w.1 k = u.1 k) ∧ (∀ k, k ≠ 85 → k ≠ 108 → k ≠ 109 → k ≠ 110 → k ≠ 111 → w.2.2.1 k = u.2.2.1 k) ∧ (∀ k, k ≠ 82 → k ≠ 107 → w.2.2.2 k = u.2.2.2 k)
def CODE (u : RSt) (H : Nat → Sh) (lo E : Nat) : Prop := E ≤ 16000 ∧ lo < E ∧ ∀ pc, lo ≤ pc → pc < E → LC u H lo (E - 1) pc ∧ (H pc).2.1 ≤ 160000
def wtp (u : RSt) (H : Nat → Sh) (p : Nat) : Nat := if opA u p = 1 then 0 else (H p).2.1
def WS (u : RSt) (H : Nat → Sh) (rs : Nat → Int32) : Nat → Nat
  | 0 => 0
  | c + 1 => WS u H rs c + wtp u H (rs c).toInt.toNat
section RRun
variable {u v w : RSt} {H : Nat → Sh} {lo E N : Nat}
theorem RFR.id : RFR u u := ⟨fun _ _ => rfl, fun _ _ _ _ _ _ => rfl, fun _ _ _ => rfl⟩
theorem RFR.sI {k : Nat} {x : Int32} (h : RFR u w) (hk : 112 ≤ k ∧ k ≤ 119) : RFR u (sI w k x) := ⟨fun j hj => by rw [sI_1, if_neg (by omega)]; exact h.1 j hj, h.2.1, h.2.2⟩
theorem RFR.sL {k : Nat} {x : Int64} (h : RFR u w) : RFR u (sL w k x) := h
theorem RFR.sA {k i : Nat} {x : Int32} (h : RFR u w) (hk : k = 108 ∨ k = 109 ∨ k = 110 ∨ k = 111) : RFR u (sA w k i x) := ⟨h.1, fun j h1 h2 h3 h4 h5 => by rw [sA_3, if_neg (by omega)]; exact h.2.1 j h1 h2 h3 h4 h5, h.2.2⟩
theorem RFR.sB {i : Nat} {x : Int64} (h : RFR u w) : RFR u (sB w 107 i x) := ⟨h.1, h.2.1, fun j h1 h2 => by rw [sB_4, if_neg h2]; exact h.2.2 j h1 h2⟩
theorem RFR.wr (h : RFR u v) (hw : WRS v w) : RFR u w := ⟨fun k hk => by rw [hw.1]; exact h.1 k hk, fun k h1 h2 h3 h4 h5 => (hw.2.1 k h1).trans (h.2.1 k h1 h2 h3 h4 h5), fun k h1 h2 => (hw.2.2 k h1).trans (h.2.2 k h1 h2)⟩
theorem WS.fr {rs rs' : Nat → Int32} : ∀ {c : Nat}, (∀ i, i < c → rs' i = rs i) → WS u H rs' c = WS u H rs c := by
  intro c
  induction c with
  | zero => intro _; rfl
  | succ c ih => intro h; unfold WS; rw [ih (fun i hi => h i (by omega)), h c (by omega)]
theorem TBS.rf (h : TBS u) (hw : RFR u w) : TBS w := by
  unfold TBS
  rw [hw.1 55 (by decide), hw.2.1 23 (by decide) (by decide) (by decide) (by decide) (by decide), hw.2.1 21 (by decide) (by decide) (by decide) (by decide) (by decide), hw.2.1 28 (by decide) (by decide) (by decide) (by decide) (by decide), hw.2.1 29 (by decide) (by decide) (by decide) (by decide) (by decide), hw.2.1 30 (by decide) (by decide) (by decide) (by decide) (by decide), hw.2.1 39 (by decide) (by decide) (by decide) (by decide) (by decide)]
  exact h
theorem app_len {as σ' σ : List (Int × Int)} {st : Nat → Int64} {top : Nat} (h : VT st top (as ++ σ')) : VT st (top - as.length) σ' ∧ as.length ≤ top := by
  induction as generalizing top with
  | nil => exact ⟨by simpa using h, Nat.zero_le _⟩
  | cons t as ih =>
    obtain ⟨h1, -, -, h4⟩ := h
    obtain ⟨a, b⟩ := ih h4
    refine ⟨?_, ?_⟩
    · have e : top - (t :: as).length = top - 1 - as.length := by simp only [List.length_cons]; omega
      rw [e]; exact a
    · simp only [List.length_cons]; omega
theorem t64 {x : Int64} (h0 : 0 ≤ x.toInt) (h1 : x.toInt ≤ 1000000) : x.toInt32.toInt = x.toInt := t32 h0 h1
theorem m_leave {x : RSt} (hv : vp_in (x.1 114 - 1) 9) : wp (F_leave N x) (fun _ z => z.1 112 = x.2.2.1 111 (x.1 114 - 1).toNatClampNeg ∧ z.1 113 = x.2.2.1 108 (x.1 114 - 1).toNatClampNeg ∧ z.1 114 = x.1 114 - 1 ∧ z.1 115 = x.2.2.1 109 (x.1 114 - 1).toNatClampNeg ∧ z.1 116 = x.2.2.1 110 (x.1 114 - 1).toNatClampNeg ∧ z.1 117 = x.1 117 ∧ z.2 = x.2 ∧ (RFR u x → RFR u z)) := by
  unfold F_leave B_leave_0
  refine wp_pu.mpr ?_
  have k114 : (sI x 114 (x.1 114 - 1)).1 114 = x.1 114 - 1 := rfl
  rw [k114]
  refine wp_rd.mpr ⟨hv, wp_pu.mpr ?_⟩
  refine wp_rd.mpr ⟨hv, wp_pu.mpr ?_⟩
  refine wp_rd.mpr ⟨hv, wp_pu.mpr ?_⟩
  refine wp_rd.mpr ⟨hv, wp_pu.mpr (wp_some.mpr ?_)⟩
  exact ⟨rfl, rfl, rfl, rfl, rfl, rfl, rfl, fun h => ((((h.sI (by decide)).sI (by decide)).sI (by decide)).sI (by decide)).sI (by decide)⟩
theorem up64 (x : Int32) : x.toInt64.toInt = x.toInt := Int32.toInt_toInt64 x
set_option maxHeartbeats 8000000 in
theorem m_run {l1 : Int32} (hN : 100000000000000 ≤ N) (hT : TBS u) (hC : CODE u H lo E) (hE : ∃ p : Nat, l1.toInt = p ∧ lo ≤ p ∧ p < E ∧ (H p).1 = 0 ∧ (H p).2.2 = []) (hd0 : 0 ≤ (u.1 105).toInt) (hd1 : (u.1 105).toInt ≤ 1000000) : wp (F_run N l1 u) (fun _ w => RFR u w) := by
  obtain ⟨hE1, hlo, hC⟩ := hC
  have e0 : (0 : Int32).toInt = 0 := by decide
  have e1 : (1 : Int32).toInt = 1 := by decide
  have e2 : (2 : Int32).toInt = 2 := by decide
  have e8 : (8 : Int32).toInt = 8 := by decide
  have e21 : (2100 : Int32).toInt = 2100 := by decide
  have wb : ∀ p, lo ≤ p → p < E → wtp u H p ≤ 160000 := by
    intro p h1 h2
    unfold wtp
    split
    · omega
    · exact (hC p h1 h2).2
  unfold F_run B_run_0
  refine wp_pu.mpr (wp_pu.mpr (wp_pu.mpr (wp_pu.mpr (wp_pu.mpr (wp_pu.mpr (wp_pu.mpr ?_))))))
  obtain ⟨p0, hp0, hp1, hp2, hp3, hp4⟩ := hE
  have hI0 : RFR u (sI (sI (sI (sI (sI (sI (sI u 113 l1) 112 0) 114 0) 115 2100) 116 0) 117 0) 118 0) := by
    refine RFR.sI (RFR.sI (RFR.sI (RFR.sI (RFR.sI (RFR.sI (RFR.sI RFR.id ?_) ?_) ?_) ?_) ?_) ?_) ?_ <;> decide
  have i113 : (sI (sI (sI (sI (sI (sI (sI u 113 l1) 112 0) 114 0) 115 2100) 116 0) 117 0) 118 0).1 113 = l1 := rfl
  have i112 : (sI (sI (sI (sI (sI (sI (sI u 113 l1) 112 0) 114 0) 115 2100) 116 0) 117 0) 118 0).1 112 = 0 := rfl
  have i114 : (sI (sI (sI (sI (sI (sI (sI u 113 l1) 112 0) 114 0) 115 2100) 116 0) 117 0) 118 0).1 114 = 0 := rfl
  have i115 : (sI (sI (sI (sI (sI (sI (sI u 113 l1) 112 0) 114 0) 115 2100) 116 0) 117 0) 118 0).1 115 = 2100 := rfl
  have i116 : (sI (sI (sI (sI (sI (sI (sI u 113 l1) 112 0) 114 0) 115 2100) 116 0) 117 0) 118 0).1 116 = 0 := rfl
  have i117 : (sI (sI (sI (sI (sI (sI (sI u 113 l1) 112 0) 114 0) 115 2100) 116 0) 117 0) 118 0).1 117 = 0 := rfl
  generalize sI (sI (sI (sI (sI (sI (sI u 113 l1) 112 0) 114 0) 115 2100) 116 0) 117 0) 118 0 = u1 at hI0 i113 i112 i114 i115 i116 i117 ⊢
  unfold LP_run_39
  have wb0 := wb p0 hp1 hp2
  refine wp_lp (fun (d : Nat) (a : Int32 × RSt) => RFR u a.2 ∧ (a.1 = 0 ∨ ¬ a.2.1 118 = 0 ∨ ∃ p c sp : Nat, (a.2.1 113).toInt = p ∧ lo ≤ p ∧ p < E ∧ (a.2.1 114).toInt = c ∧ c ≤ 8 ∧ (a.2.1 112).toInt = sp ∧ LOW H lo E (a.2.2.2.1 108) (a.2.2.2.1 111) (a.2.2.2.1 109) (a.2.2.2.1 110) (a.2.2.2.2 107) c sp (H p).1 (H p).2.2 ∧ 2100 ≤ (a.2.1 115).toInt ∧ (a.2.1 115).toInt ≤ 2900 ∧ 0 ≤ (a.2.1 116).toInt ∧ (a.2.1 116).toInt ≤ 2000 ∧ 0 ≤ (a.2.1 117).toInt ∧ (a.2.1 117).toInt ≤ (u.1 105).toInt ∧ d = ((u.1 105).toInt - (a.2.1 117).toInt).toNat * 2000000 + WS u H (a.2.2.2.1 108) c + wtp u H p + 1)) ?_ _ (((u.1 105).toInt - (0 : Int32).toInt).toNat * 2000000 + 0 + wtp u H p0 + 1) _ (by omega) ⟨hI0, Or.inr (Or.inr ⟨p0, 0, 0, by rw [i113]; exact hp0, hp1, hp2, by rw [i114]; exact e0, by omega, by rw [i112]; exact e0, ⟨hp3, by rw [hp4]; rfl, by rw [hp4]; trivial⟩, by rw [i115]; omega, by rw [i115]; omega, by rw [i116]; omega, by rw [i116]; omega, by rw [i117]; omega, by rw [i117]; omega, by rw [i117]; rfl⟩)⟩
  rintro d R ⟨l2, v⟩ ⟨hf, hv⟩ ih
  dsimp only at hf hv ⊢
  unfold B_run_39
  refine wp_if.mpr ⟨fun _ => wp_some.mpr hf, fun hl2 => ?_⟩
  refine wp_if.mpr ⟨fun hst => ?_, fun _ => wp_some.mpr hf⟩
  rcases hv with q | q | ⟨p, c, sp, h113, hplo, hpE, h114, hc8, h112, hlow, f1, f2, g1, g2, k1, k2, hd⟩
  · exact absurd q hl2
  · exact absurd hst q
  obtain ⟨hLC, hrk⟩ := hC p hplo hpE
  have hlen := hLC.1
  have hsp : sp ≤ 5400 := by have := hlow.tp hlen; omega
  have hvt := hlow.vt
  have hvl := hvt.len
  refine wp_pu.mpr ?_
  have hf1 : RFR u (sI v 113 (v.1 113 + 1)) := hf.sI (by decide)
  have j113 : ((sI v 113 (v.1 113 + 1)).1 113).toInt = p + 1 := by
    show (v.1 113 + 1).toInt = _
    rw [tI_add (by omega) (by omega), e1, h113]
  have j112 : ((sI v 113 (v.1 113 + 1)).1 112).toInt = sp := h112
  have j114 : ((sI v 113 (v.1 113 + 1)).1 114).toInt = c := h114
  have j115 : (sI v 113 (v.1 113 + 1)).1 115 = v.1 115 := rfl
  have j116 : (sI v 113 (v.1 113 + 1)).1 116 = v.1 116 := rfl
  have j117 : (sI v 113 (v.1 113 + 1)).1 117 = v.1 117 := rfl
  have j105 : (sI v 113 (v.1 113 + 1)).1 105 = u.1 105 := hf1.1 105 (by decide)
  have jlow : LOW H lo E ((sI v 113 (v.1 113 + 1)).2.2.1 108) ((sI v 113 (v.1 113 + 1)).2.2.1 111) ((sI v 113 (v.1 113 + 1)).2.2.1 109) ((sI v 113 (v.1 113 + 1)).2.2.1 110) ((sI v 113 (v.1 113 + 1)).2.2.2 107) c sp (H p).1 (H p).2.2 := hlow
  have jd : d = ((u.1 105).toInt - ((sI v 113 (v.1 113 + 1)).1 117).toInt).toNat * 2000000 + WS u H ((sI v 113 (v.1 113 + 1)).2.2.1 108) c + wtp u H p + 1 := hd
  have jvt : VT ((sI v 113 (v.1 113 + 1)).2.2.2 107) sp (H p).2.2 := hvt
  rw [← j115] at f1 f2
  rw [← j116] at g1 g2
  rw [← j117] at k1 k2
  have hpv : vp_in (v.1 113) 16000 := vin_iff.mpr ⟨by omega, by omega⟩
  have hpn : (v.1 113).toNatClampNeg = p := by show (v.1 113).toInt.toNat = p; omega
  clear hlow hvt hd j115 j116 j117
  generalize sI v 113 (v.1 113 + 1) = x at hf1 j113 j112 j114 j105 jlow jd jvt f1 f2 g1 g2 k1 k2 ⊢
  have a50 : x.2.2.1 50 (v.1 113).toNatClampNeg = aA u p := by rw [hf1.2.1 50 (by decide) (by decide) (by decide) (by decide) (by decide), hpn]; rfl
  have a51 : x.2.2.1 51 (v.1 113).toNatClampNeg = bA u p := by rw [hf1.2.1 51 (by decide) (by decide) (by decide) (by decide) (by decide), hpn]; rfl
  have a49 : x.2.2.1 49 (v.1 113).toNatClampNeg = opA u p := by rw [hf1.2.1 49 (by decide) (by decide) (by decide) (by decide) (by decide), hpn]; rfl
  refine wp_rd.mpr ⟨hpv, wp_rd.mpr ⟨hpv, wp_rd.mpr ⟨hpv, ?_⟩⟩⟩
  rw [a49, a50, a51]
  -- the stack's cells
  have n0 : (x.1 112).toNatClampNeg = sp := by show (x.1 112).toInt.toNat = sp; omega
  have m1 : 1 ≤ sp → (x.1 112 - 1).toInt = (sp : Int) - 1 ∧ (x.1 112 - 1).toNatClampNeg = sp - 1 ∧ vp_in (x.1 112 - 1) 6000 := by
    intro h
    have q : (x.1 112 - 1).toInt = (sp : Int) - 1 := by rw [tI_sub (by omega) (by omega), e1, j112]
    exact ⟨q, by show (x.1 112 - 1).toInt.toNat = _; omega, vin_iff.mpr ⟨by omega, by omega⟩⟩
  have m2 : 2 ≤ sp → (x.1 112 - 2).toInt = (sp : Int) - 2 ∧ (x.1 112 - 2).toNatClampNeg = sp - 2 ∧ vp_in (x.1 112 - 2) 6000 := by
    intro h
    have q : (x.1 112 - 2).toInt = (sp : Int) - 2 := by rw [tI_sub (by omega) (by omega), e2, j112]
    exact ⟨q, by show (x.1 112 - 2).toInt.toNat = _; omega, vin_iff.mpr ⟨by omega, by omega⟩⟩
  have v0 : vp_in (x.1 112) 6000 := vin_iff.mpr ⟨by omega, by omega⟩
  have p1 : (x.1 112 + 1).toInt = (sp : Int) + 1 := by rw [tI_add (by omega) (by omega), e1, j112]
  -- on to a place in the same frame
  have go1 : ∀ (y : RSt) (p' sp' : Nat) (σ' : List (Int × Int)), RFR u y → (y.1 113).toInt = p' → y.1 114 = x.1 114 → y.1 115 = x.1 115 → y.1 116 = x.1 116 → y.1 117 = x.1 117 → (y.2.2.1 108 = x.2.2.1 108 ∧ y.2.2.1 111 = x.2.2.1 111 ∧ y.2.2.1 109 = x.2.2.1 109 ∧ y.2.2.1 110 = x.2.2.1 110) → (y.1 112).toInt = sp' → NX u H lo (E - 1) p p' σ' → ¬ opA u p = 1 → (∀ i, i < sp - (H p).2.2.length → y.2.2.2 107 i = x.2.2.2 107 i) → VT (y.2.2.2 107) sp' σ' → sp' + (H p).2.2.length = sp + σ'.length → wp (R (l2, y)) (fun _ w => RFR u w) := by
    intro y p' sp' σ' hy y1 y2 y3 y4 y5 ⟨r1, r2, r3, r4⟩ y6 hn hop hs hv ht
    obtain ⟨b1, b2, b3, b4, b5⟩ := hn
    have w1 : wtp u H p = (H p).2.1 := by unfold wtp; rw [if_neg hop]
    have w2 : wtp u H p' < (H p).2.1 := by
      unfold wtp
      rcases b5 with q | ⟨q1, q2, q3⟩
      · split <;> omega
      · rw [if_pos q1]; omega
    refine ih (((u.1 105).toInt - (y.1 117).toInt).toNat * 2000000 + WS u H (y.2.2.1 108) c + wtp u H p' + 1) (l2, y) ?_ ⟨hy, Or.inr (Or.inr ⟨p', c, sp', y1, b1, by omega, by rw [y2]; exact j114, hc8, y6, ?_, by rw [y3]; exact f1, by rw [y3]; exact f2, by rw [y4]; exact g1, by rw [y4]; exact g2, by rw [y5]; exact k1, by rw [y5]; exact k2, rfl⟩)⟩
    · rw [y5, r1]; omega
    · rw [r1, r2, r3, r4, b3, b4]
      exact jlow.chg hs hv ht
  have stp : ∀ (y : RSt), RFR u y → ¬ y.1 118 = 0 → wp (R (l2, y)) (fun _ w => RFR u w) := by
    intro y hy h
    exact ih 0 (l2, y) (by omega) ⟨hy, Or.inr (Or.inl h)⟩
  have stops : ∀ (n b : Int32) (y : RSt), ¬ n = 0 → RFR u y → wp (bn (F_stops N n b y) fun _ u_1 => B_run_1519 N R l2 u_1) (fun _ w => RFR u w) := by
    intro n b y hn hy
    rw [wp_bn]
    unfold F_stops B_stops_0
    refine wp_pu.mpr (wp_pu.mpr (wp_some.mpr ?_))
    unfold B_run_1519
    exact stp _ ((hy.sI (by decide)).sI (by decide)) hn
  -- push, change of the top
  have psh : ∀ (a : Int64) (t : Int × Int), t.1 ≤ a.toInt → a.toInt ≤ t.2 → NX u H lo (E - 1) p (p + 1) (t :: (H p).2.2) → ¬ opA u p = 1 → wp (R (l2, sB (sI x 112 (x.1 112 + 1)) 107 (x.1 112).toNatClampNeg a)) (fun _ w => RFR u w) := by
    intro a t ha1 ha2 hn hop
    rw [n0]
    refine go1 _ (p + 1) (sp + 1) _ (hf1.sI (by decide)).sB j113 rfl rfl rfl rfl ⟨rfl, rfl, rfl, rfl⟩ ?_ hn hop ?_ ?_ ?_
    · show (x.1 112 + 1).toInt = _; rw [p1]; omega
    · intro i hi
      show vp_updL (x.2.2.2 107) sp a i = _
      unfold vp_updL
      rw [if_neg (by omega)]
    · exact jvt.push ha1 ha2
    · simp only [List.length_cons]; omega
  have un : ∀ (a : Int64) (t : Int × Int) (σ : List (Int × Int)), (H p).2.2 = t :: σ → ∀ (s : Int × Int), s.1 ≤ a.toInt → a.toInt ≤ s.2 → NX u H lo (E - 1) p (p + 1) (s :: σ) → ¬ opA u p = 1 → wp (R (l2, sB x 107 (x.1 112 - 1).toNatClampNeg a)) (fun _ w => RFR u w) := by
    intro a t σ hσ s ha1 ha2 hn hop
    have q := jvt
    rw [hσ] at q
    obtain ⟨q1, -, -, q4⟩ := q
    rw [(m1 q1).2.1]
    refine go1 _ (p + 1) sp _ hf1.sB j113 rfl rfl rfl rfl ⟨rfl, rfl, rfl, rfl⟩ j112 hn hop ?_ ?_ ?_
    · intro i hi
      rw [hσ, List.length_cons] at hi
      show vp_updL (x.2.2.2 107) (sp - 1) a i = _
      unfold vp_updL
      rw [if_neg (by omega)]
    · have := q4.push (t := s) (v := a) ha1 ha2
      rw [show sp - 1 + 1 = sp by omega] at this
      exact this
    · rw [hσ]; simp only [List.length_cons]
  -- one less, then at p'
  have pop1 : ∀ (y : RSt) (t : Int × Int) (σ : List (Int × Int)) (p' : Nat), (H p).2.2 = t :: σ → RFR u y → (y.1 113).toInt = p' → y.1 114 = x.1 114 → y.1 115 = x.1 115 → y.1 116 = x.1 116 → y.1 117 = x.1 117 → (y.2.2.1 108 = x.2.2.1 108 ∧ y.2.2.1 111 = x.2.2.1 111 ∧ y.2.2.1 109 = x.2.2.1 109 ∧ y.2.2.1 110 = x.2.2.1 110) → y.1 112 = x.1 112 - 1 → y.2.2.2 107 = x.2.2.2 107 → NX u H lo (E - 1) p p' σ → ¬ opA u p = 1 → wp (R (l2, y)) (fun _ w => RFR u w) := by
    intro y t σ p' hσ hy y1 y2 y3 y4 y5 yr y6 y7 hn hop
    have q := jvt
    rw [hσ] at q
    obtain ⟨q1, -, -, q4⟩ := q
    refine go1 y p' (sp - 1) σ hy y1 y2 y3 y4 y5 yr (by rw [y6, (m1 q1).1]; omega) hn hop (fun i _ => by rw [y7]) (by rw [y7]; exact q4) ?_
    rw [hσ]; simp only [List.length_cons]; omega
  -- a frame is left
  have lv : ∀ (y : RSt), (H p).1 = 1 ∨ (H p).1 = 2 → ¬ opA u p = 1 → 1 ≤ (H p).2.1 → ∃ (c' r t : Nat) (σ' : List (Int × Int)), c = c' + 1 ∧ (x.2.2.1 108 c').toInt = r ∧ lo ≤ r ∧ r < E ∧ (x.2.2.1 111 c').toInt = t ∧ ((H p).1 = 2 → (H r).2.2 = nT :: σ') ∧ ((H p).1 = 1 → (H r).2.2 = σ') ∧ σ'.length ≤ 600 ∧ 2100 ≤ (x.2.2.1 109 c').toInt ∧ (x.2.2.1 109 c').toInt ≤ 2900 ∧ 0 ≤ (x.2.2.1 110 c').toInt ∧ (x.2.2.1 110 c').toInt ≤ 2000 ∧ LOW H lo E (x.2.2.1 108) (x.2.2.1 111) (x.2.2.1 109) (x.2.2.1 110) (x.2.2.2 107) c' t (H r).1 σ' ∧ WS u H (x.2.2.1 108) c = WS u H (x.2.2.1 108) c' + wtp u H r ∧ 1 ≤ wtp u H p := by
    intro y hm hop hr
    cases c with
    | zero => have := jlow.1; omega
    | succ c =>
      obtain ⟨-, -, r, t, σ', a1, a2, a3, a4, a5, a6, a7, a8, a9, a10, a11, a12, a13⟩ := jlow
      refine ⟨c, r, t, σ', rfl, a1, a2, a3, a4, a6, a7, a8, a9, a10, a11, a12, a13, ?_, ?_⟩
      · show WS u H (x.2.2.1 108) c + wtp u H ((x.2.2.1 108) c).toInt.toNat = _
        rw [a1]; rfl
      · unfold wtp; rw [if_neg hop]; exact hr
  have lvw : ∀ (c' : Nat), c = c' + 1 → (x.1 114 - 1).toInt = c' ∧ (x.1 114 - 1).toNatClampNeg = c' ∧ vp_in (x.1 114 - 1) 9 := by
    intro c' h
    have q : (x.1 114 - 1).toInt = c' := by rw [tI_sub (by omega) (by omega), e1, j114]; omega
    exact ⟨q, by show (x.1 114 - 1).toInt.toNat = _; omega, vin_iff.mpr ⟨by omega, by omega⟩⟩
  rcases hLC.2 with h | h | h | h | h | h | h | h | h | h | h | h | h | h | h | h | h | h | h | h | h | h | h | h
  · obtain ⟨hop, b1, b2, b3, b4⟩ := h
    refine wp_if.mpr ⟨fun _ => ?_, fun q => absurd hop q⟩
    have w1 : wtp u H p = 0 := by unfold wtp; rw [if_pos hop]
    have w2 := wb (p + 1) b1 (by omega)
    refine wp_if.mpr ⟨fun _ => stops 3 _ x (by decide) hf1, fun q => ?_⟩
    have q1 : ¬ (x.1 117).toInt = (x.1 105).toInt := fun z => q (tI_eq.mpr z)
    rw [j105] at q1
    have q2 : (x.1 117 + 1).toInt = (x.1 117).toInt + 1 := by rw [tI_add (by omega) (by omega), e1]
    refine wp_pu.mpr ?_
    unfold B_run_1519
    refine ih (((u.1 105).toInt - (x.1 117 + 1).toInt).toNat * 2000000 + WS u H (x.2.2.1 108) c + wtp u H (p + 1) + 1) (l2, sI x 117 (x.1 117 + 1)) ?_ ⟨hf1.sI (by decide), Or.inr (Or.inr ⟨p + 1, c, sp, j113, b1, by omega, j114, hc8, j112, ?_, f1, f2, g1, g2, ?_, ?_, rfl⟩)⟩
    · rw [q2]; omega
    · show LOW H lo E (x.2.2.1 108) (x.2.2.1 111) (x.2.2.1 109) (x.2.2.1 110) (x.2.2.2 107) c sp (H (p + 1)).1 (H (p + 1)).2.2
      rw [b3, b4]; exact jlow
    · show 0 ≤ (x.1 117 + 1).toInt; omega
    · show (x.1 117 + 1).toInt ≤ _; omega
  · obtain ⟨hop, hn⟩ := h
    rcases hop with hop | hop
    · have z := 0
      refine wp_if.mpr ⟨fun q => absurd (hop.symm.trans q) (by decide), fun _ => ?_⟩
      refine wp_if.mpr ⟨fun _ => ?_, fun q => absurd hop q⟩
      refine wp_pu.mpr ?_
      refine wp_rd.mpr ⟨hpv, ?_⟩
      refine wp_wr.mpr ⟨v0, ?_⟩
      unfold B_run_1519
      exact psh _ _ (nT_in _).1 (nT_in _).2 hn (by rw [hop]; decide)
    · have z := 0
      refine wp_if.mpr ⟨fun q => absurd (hop.symm.trans q) (by decide), fun _ => ?_⟩
      refine wp_if.mpr ⟨fun q => absurd (hop.symm.trans q) (by decide), fun _ => ?_⟩
      refine wp_if.mpr ⟨fun _ => ?_, fun q => absurd hop q⟩
      refine wp_pu.mpr ?_
      refine wp_wr.mpr ⟨v0, ?_⟩
      unfold B_run_1519
      exact psh _ _ (nT_in _).1 (nT_in _).2 hn (by rw [hop]; decide)
  · obtain ⟨hop, hn⟩ := h
    refine wp_if.mpr ⟨fun q => absurd (hop.symm.trans q) (by decide), fun _ => ?_⟩
    refine wp_if.mpr ⟨fun q => absurd (hop.symm.trans q) (by decide), fun _ => ?_⟩
    refine wp_if.mpr ⟨fun q => absurd (hop.symm.trans q) (by decide), fun _ => ?_⟩
    refine wp_if.mpr ⟨fun _ => ?_, fun q => absurd hop q⟩
    refine wp_pu.mpr ?_
    refine wp_wr.mpr ⟨v0, ?_⟩
    unfold B_run_1519
    exact psh _ _ (by rw [up64]; exact Int.le_refl _) (by rw [up64]; exact Int.le_refl _) hn (by rw [hop]; decide)
  · obtain ⟨hop, a0, a9, hn⟩ := h
    have ea : (x.1 116 + aA u p).toInt = (x.1 116).toInt + (aA u p).toInt := by rw [tI_add (by omega) (by omega)]
    refine wp_if.mpr ⟨fun q => absurd (hop.symm.trans q) (by decide), fun _ => ?_⟩
    refine wp_if.mpr ⟨fun q => absurd (hop.symm.trans q) (by decide), fun _ => ?_⟩
    refine wp_if.mpr ⟨fun q => absurd (hop.symm.trans q) (by decide), fun _ => ?_⟩
    refine wp_if.mpr ⟨fun q => absurd (hop.symm.trans q) (by decide), fun _ => ?_⟩
    refine wp_if.mpr ⟨fun _ => ?_, fun q => absurd hop q⟩
    refine wp_pu.mpr ?_
    refine wp_wr.mpr ⟨v0, ?_⟩
    unfold B_run_1519
    exact psh _ _ (by show _ ≤ ((x.1 116 + aA u p).toInt64).toInt; rw [up64, ea]; show (aA u p).toInt ≤ _; omega) (by show ((x.1 116 + aA u p).toInt64).toInt ≤ _; rw [up64, ea]; show _ ≤ 2000 + (aA u p).toInt; omega) hn (by rw [hop]; decide)
  · obtain ⟨hop, a0, a9, hn⟩ := h
    have ea : (x.1 115 + aA u p).toInt = (x.1 115).toInt + (aA u p).toInt := by rw [tI_add (by omega) (by omega)]
    refine wp_if.mpr ⟨fun q => absurd (hop.symm.trans q) (by decide), fun _ => ?_⟩
    refine wp_if.mpr ⟨fun q => absurd (hop.symm.trans q) (by decide), fun _ => ?_⟩
    refine wp_if.mpr ⟨fun q => absurd (hop.symm.trans q) (by decide), fun _ => ?_⟩
    refine wp_if.mpr ⟨fun q => absurd (hop.symm.trans q) (by decide), fun _ => ?_⟩
    refine wp_if.mpr ⟨fun q => absurd (hop.symm.trans q) (by decide), fun _ => ?_⟩
    refine wp_if.mpr ⟨fun _ => ?_, fun q => absurd hop q⟩
    refine wp_pu.mpr ?_
    refine wp_wr.mpr ⟨v0, ?_⟩
    unfold B_run_1519
    exact psh _ _ (by show _ ≤ ((x.1 115 + aA u p).toInt64).toInt; rw [up64, ea]; show 2100 + (aA u p).toInt ≤ _; omega) (by show ((x.1 115 + aA u p).toInt64).toInt ≤ _; rw [up64, ea]; show _ ≤ 2900 + (aA u p).toInt; omega) hn (by rw [hop]; decide)
  · obtain ⟨hop, t, s, σ, hσ, b1, b2, b3, b4, hn⟩ := h
    refine wp_if.mpr ⟨fun q => absurd (hop.symm.trans q) (by decide), fun _ => ?_⟩
    refine wp_if.mpr ⟨fun q => absurd (hop.symm.trans q) (by decide), fun _ => ?_⟩
    refine wp_if.mpr ⟨fun q => absurd (hop.symm.trans q) (by decide), fun _ => ?_⟩
    refine wp_if.mpr ⟨fun q => absurd (hop.symm.trans q) (by decide), fun _ => ?_⟩
    refine wp_if.mpr ⟨fun q => absurd (hop.symm.trans q) (by decide), fun _ => ?_⟩
    refine wp_if.mpr ⟨fun q => absurd (hop.symm.trans q) (by decide), fun _ => ?_⟩
    refine wp_if.mpr ⟨fun _ => ?_, fun q => absurd hop q⟩
    have q := jvt
    rw [hσ] at q
    obtain ⟨q1, q2, q3, q4, q5, q6, q7⟩ := q
    obtain ⟨z1, z2, z3⟩ := m1 q1
    obtain ⟨y1, y2, y3⟩ := m2 (by omega)
    refine wp_rd.mpr ⟨y3, wp_rd.mpr ⟨z3, wp_wr.mpr ⟨y3, wp_pu.mpr ?_⟩⟩⟩
    rw [y2, z2]
    rw [show sp - 1 - 1 = sp - 2 by omega] at q5 q6 q7
    have ev : (x.2.2.2 107 (sp - 2) + x.2.2.2 107 (sp - 1)).toInt = (x.2.2.2 107 (sp - 2)).toInt + (x.2.2.2 107 (sp - 1)).toInt := by
      rw [Int64.toInt_add]
      exact Int.bmod_eq_of_le (by omega) (by omega)
    unfold B_run_1519
    refine go1 _ (p + 1) (sp - 1) _ (hf1.sB.sI (by decide)) j113 rfl rfl rfl rfl ⟨rfl, rfl, rfl, rfl⟩ ?_ hn (by rw [hop]; decide) ?_ ?_ ?_
    · show (x.1 112 - 1).toInt = _; rw [z1]; omega
    · intro i hi
      rw [hσ] at hi
      simp only [List.length_cons] at hi
      show vp_updL (x.2.2.2 107) (sp - 2) _ i = _
      unfold vp_updL
      rw [if_neg (by omega)]
    · have := q7.push (t := (t.1 + s.1, t.2 + s.2)) (v := x.2.2.2 107 (sp - 2) + x.2.2.2 107 (sp - 1)) (by rw [ev]; show t.1 + s.1 ≤ _; omega) (by rw [ev]; show _ ≤ t.2 + s.2; omega)
      rw [show sp - 2 + 1 = sp - 1 by omega] at this
      exact this
    · rw [hσ]; simp only [List.length_cons]; omega
  · obtain ⟨hop, a0, t, σ, hσ, hn⟩ := h
    refine wp_if.mpr ⟨fun q => absurd (hop.symm.trans q) (by decide), fun _ => ?_⟩
    refine wp_if.mpr ⟨fun q => absurd (hop.symm.trans q) (by decide), fun _ => ?_⟩
    refine wp_if.mpr ⟨fun q => absurd (hop.symm.trans q) (by decide), fun _ => ?_⟩
    refine wp_if.mpr ⟨fun q => absurd (hop.symm.trans q) (by decide), fun _ => ?_⟩
    refine wp_if.mpr ⟨fun q => absurd (hop.symm.trans q) (by decide), fun _ => ?_⟩
    refine wp_if.mpr ⟨fun q => absurd (hop.symm.trans q) (by decide), fun _ => ?_⟩
    refine wp_if.mpr ⟨fun q => absurd (hop.symm.trans q) (by decide), fun _ => ?_⟩
    refine wp_if.mpr ⟨fun _ => ?_, fun q => absurd hop q⟩
    have q := jvt
    rw [hσ] at q
    obtain ⟨q1, q2, q3, q4⟩ := q
    obtain ⟨z1, z2, z3⟩ := m1 q1
    refine wp_rd.mpr ⟨z3, ?_⟩
    have bad : wp (B_run_483 N R l2 (bA u p) x) (fun _ w => RFR u w) := by
      unfold B_run_483
      exact stops 2 _ x (by decide) hf1
    refine wp_if.mpr ⟨fun _ => bad, fun c1 => wp_rd.mpr ⟨z3, wp_if.mpr ⟨fun c2 => ?_, fun _ => bad⟩⟩⟩
    rw [z2] at c1 c2
    have c3 := Int64.le_iff_toInt_le.mp (Int64.not_lt.mp c1)
    have c4 := Int64.lt_iff_toInt_lt.mp c2
    rw [up64] at c4
    have z64 : (0 : Int64).toInt = 0 := by decide
    unfold B_run_1519
    refine go1 x (p + 1) sp _ hf1 j113 rfl rfl rfl rfl ⟨rfl, rfl, rfl, rfl⟩ j112 hn (by rw [hop]; decide) (fun _ _ => rfl) ⟨q1, by show 0 ≤ _; omega, by show _ ≤ (aA u p).toInt - 1; omega, q4⟩ ?_
    rw [hσ]; simp only [List.length_cons]
  · obtain ⟨hop, t, σ, hσ, hr, hn⟩ := h
    refine wp_if.mpr ⟨fun q => absurd (hop.symm.trans q) (by decide), fun _ => ?_⟩
    refine wp_if.mpr ⟨fun q => absurd (hop.symm.trans q) (by decide), fun _ => ?_⟩
    refine wp_if.mpr ⟨fun q => absurd (hop.symm.trans q) (by decide), fun _ => ?_⟩
    refine wp_if.mpr ⟨fun q => absurd (hop.symm.trans q) (by decide), fun _ => ?_⟩
    refine wp_if.mpr ⟨fun q => absurd (hop.symm.trans q) (by decide), fun _ => ?_⟩
    refine wp_if.mpr ⟨fun q => absurd (hop.symm.trans q) (by decide), fun _ => ?_⟩
    refine wp_if.mpr ⟨fun q => absurd (hop.symm.trans q) (by decide), fun _ => ?_⟩
    refine wp_if.mpr ⟨fun q => absurd (hop.symm.trans q) (by decide), fun _ => ?_⟩
    refine wp_if.mpr ⟨fun _ => ?_, fun q => absurd hop q⟩
    have q := jvt
    rw [hσ] at q
    obtain ⟨q1, q2, q3, q4⟩ := q
    obtain ⟨z1, z2, z3⟩ := m1 q1
    have hr2 : RDb ((x.2.2.2 107 (sp - 1)).toInt32.toInt, (x.2.2.2 107 (sp - 1)).toInt32.toInt) (aA u p) := by
      obtain ⟨r1, r2, r3⟩ := hr
      have hy := byK_r (k := (aA u p).toInt)
      have et : (x.2.2.2 107 (sp - 1)).toInt32.toInt = (x.2.2.2 107 (sp - 1)).toInt := t64 (by omega) (by omega)
      rw [et]
      refine ⟨r1, r2, ?_⟩
      dsimp only
      omega
    refine wp_rd.mpr ⟨z3, ?_⟩
    rw [wp_bn]
    rw [z2]
    refine wp_mono (m_read (by omega) hr2) (fun r y hy => ?_)
    subst hy
    refine wp_wr.mpr ⟨z3, ?_⟩
    unfold B_run_1519
    rw [← z2]
    exact un r t σ hσ nT (nT_in _).1 (nT_in _).2 hn (by rw [hop]; decide)
  · obtain ⟨hop, t, σ, hσ, hr, hn⟩ := h
    refine wp_if.mpr ⟨fun q => absurd (hop.symm.trans q) (by decide), fun _ => ?_⟩
    refine wp_if.mpr ⟨fun q => absurd (hop.symm.trans q) (by decide), fun _ => ?_⟩
    refine wp_if.mpr ⟨fun q => absurd (hop.symm.trans q) (by decide), fun _ => ?_⟩
    refine wp_if.mpr ⟨fun q => absurd (hop.symm.trans q) (by decide), fun _ => ?_⟩
    refine wp_if.mpr ⟨fun q => absurd (hop.symm.trans q) (by decide), fun _ => ?_⟩
    refine wp_if.mpr ⟨fun q => absurd (hop.symm.trans q) (by decide), fun _ => ?_⟩
    refine wp_if.mpr ⟨fun q => absurd (hop.symm.trans q) (by decide), fun _ => ?_⟩
    refine wp_if.mpr ⟨fun q => absurd (hop.symm.trans q) (by decide), fun _ => ?_⟩
    refine wp_if.mpr ⟨fun q => absurd (hop.symm.trans q) (by decide), fun _ => ?_⟩
    refine wp_if.mpr ⟨fun _ => ?_, fun q => absurd hop q⟩
    have q := jvt
    rw [hσ] at q
    obtain ⟨q1, q2, q3, q4⟩ := q
    obtain ⟨z1, z2, z3⟩ := m1 q1
    have hr2 : RDb ((x.2.2.2 107 (sp - 1)).toInt32.toInt, (x.2.2.2 107 (sp - 1)).toInt32.toInt) (aA u p) := by
      obtain ⟨r1, r2, r3⟩ := hr
      have hy := byK_r (k := (aA u p).toInt)
      have et : (x.2.2.2 107 (sp - 1)).toInt32.toInt = (x.2.2.2 107 (sp - 1)).toInt := t64 (by omega) (by omega)
      rw [et]
      refine ⟨r1, r2, ?_⟩
      dsimp only
      omega
    refine wp_rd.mpr ⟨z3, ?_⟩
    rw [wp_bn]
    rw [z2]
    refine wp_mono (m_read (by omega) hr2) (fun r y hy => ?_)
    subst hy
    refine wp_wr.mpr ⟨v0, wp_pu.mpr ?_⟩
    unfold B_run_1519
    rw [n0]
    refine go1 _ (p + 1) (sp + 1) _ (hf1.sB.sI (by decide)) j113 rfl rfl rfl rfl ⟨rfl, rfl, rfl, rfl⟩ ?_ (by rw [← hσ] at hn; exact hn) (by rw [hop]; decide) ?_ ?_ ?_
    · show (y.1 112 + 1).toInt = _; rw [p1]; omega
    · intro i hi
      show vp_updL (y.2.2.2 107) sp r i = _
      unfold vp_updL
      rw [if_neg (by omega)]
    · exact jvt.push (nT_in _).1 (nT_in _).2
    · simp only [List.length_cons]; omega
  · obtain ⟨hop, s, t, σ, hσ, hr, hn⟩ := h
    refine wp_if.mpr ⟨fun q => absurd (hop.symm.trans q) (by decide), fun _ => ?_⟩
    refine wp_if.mpr ⟨fun q => absurd (hop.symm.trans q) (by decide), fun _ => ?_⟩
    refine wp_if.mpr ⟨fun q => absurd (hop.symm.trans q) (by decide), fun _ => ?_⟩
    refine wp_if.mpr ⟨fun q => absurd (hop.symm.trans q) (by decide), fun _ => ?_⟩
    refine wp_if.mpr ⟨fun q => absurd (hop.symm.trans q) (by decide), fun _ => ?_⟩
    refine wp_if.mpr ⟨fun q => absurd (hop.symm.trans q) (by decide), fun _ => ?_⟩
    refine wp_if.mpr ⟨fun q => absurd (hop.symm.trans q) (by decide), fun _ => ?_⟩
    refine wp_if.mpr ⟨fun q => absurd (hop.symm.trans q) (by decide), fun _ => ?_⟩
    refine wp_if.mpr ⟨fun q => absurd (hop.symm.trans q) (by decide), fun _ => ?_⟩
    refine wp_if.mpr ⟨fun q => absurd (hop.symm.trans q) (by decide), fun _ => ?_⟩
    refine wp_if.mpr ⟨fun _ => ?_, fun q => absurd hop q⟩
    have q := jvt
    rw [hσ] at q
    obtain ⟨q1, q2, q3, q4, q5, q6, q7⟩ := q
    obtain ⟨y1, y2, y3⟩ := m2 (by omega)
    rw [show sp - 1 - 1 = sp - 2 by omega] at q5 q6 q7
    refine wp_pu.mpr ?_
    have k112 : (sI x 112 (x.1 112 - 2)).1 112 = x.1 112 - 2 := rfl
    rw [k112]
    have y4 : (x.1 112 - 2 + 1).toInt = (sp : Int) - 1 := by rw [tI_add (by omega) (by omega), e1, y1]; omega
    refine wp_rd.mpr ⟨y3, wp_rd.mpr ⟨vin_iff.mpr ⟨by omega, by omega⟩, ?_⟩⟩
    rw [wp_bn, y2]
    have hr2 : WRb ((x.2.2.2 107 (sp - 2)).toInt32.toInt, (x.2.2.2 107 (sp - 2)).toInt32.toInt) (aA u p) := by
      obtain ⟨r1, r2, r3⟩ := hr
      have hy := byK_r (k := (aA u p).toInt)
      have et : (x.2.2.2 107 (sp - 2)).toInt32.toInt = (x.2.2.2 107 (sp - 2)).toInt := t64 (by omega) (by omega)
      rw [et]
      refine ⟨r1, r2, ?_⟩
      dsimp only
      omega
    refine wp_mono (m_write (by omega) hr2) (fun r y hy => ?_)
    unfold B_run_1519
    have yf : RFR u y := (hf1.sI (by decide)).wr hy
    refine go1 y (p + 1) (sp - 2) σ yf (by rw [hy.1]; exact j113) (by rw [hy.1]; rfl) (by rw [hy.1]; rfl) (by rw [hy.1]; rfl) (by rw [hy.1]; rfl) ⟨hy.2.1 108 (by decide), hy.2.1 111 (by decide), hy.2.1 109 (by decide), hy.2.1 110 (by decide)⟩ ?_ hn (by rw [hop]; decide) ?_ ?_ ?_
    · rw [hy.1, k112, y1]; omega
    · intro i _; rw [hy.2.2 107 (by decide)]; rfl
    · rw [hy.2.2 107 (by decide)]; exact q7
    · rw [hσ]; simp only [List.length_cons]; omega
  · obtain ⟨hop, s, t, σ, hσ, hr, hw, hn⟩ := h
    refine wp_if.mpr ⟨fun q => absurd (hop.symm.trans q) (by decide), fun _ => ?_⟩
    refine wp_if.mpr ⟨fun q => absurd (hop.symm.trans q) (by decide), fun _ => ?_⟩
    refine wp_if.mpr ⟨fun q => absurd (hop.symm.trans q) (by decide), fun _ => ?_⟩
    refine wp_if.mpr ⟨fun q => absurd (hop.symm.trans q) (by decide), fun _ => ?_⟩
    refine wp_if.mpr ⟨fun q => absurd (hop.symm.trans q) (by decide), fun _ => ?_⟩
    refine wp_if.mpr ⟨fun q => absurd (hop.symm.trans q) (by decide), fun _ => ?_⟩
    refine wp_if.mpr ⟨fun q => absurd (hop.symm.trans q) (by decide), fun _ => ?_⟩
    refine wp_if.mpr ⟨fun q => absurd (hop.symm.trans q) (by decide), fun _ => ?_⟩
    refine wp_if.mpr ⟨fun q => absurd (hop.symm.trans q) (by decide), fun _ => ?_⟩
    refine wp_if.mpr ⟨fun q => absurd (hop.symm.trans q) (by decide), fun _ => ?_⟩
    refine wp_if.mpr ⟨fun q => absurd (hop.symm.trans q) (by decide), fun _ => ?_⟩
    refine wp_if.mpr ⟨fun _ => ?_, fun q => absurd hop q⟩
    have q := jvt
    rw [hσ] at q
    obtain ⟨q1, q2, q3, q4, q5, q6, q7⟩ := q
    obtain ⟨y1, y2, y3⟩ := m2 (by omega)
    rw [show sp - 1 - 1 = sp - 2 by omega] at q5 q6 q7
    refine wp_pu.mpr ?_
    have k112 : (sI x 112 (x.1 112 - 2)).1 112 = x.1 112 - 2 := rfl
    rw [k112]
    have y4 : (x.1 112 - 2 + 1).toInt = (sp : Int) - 1 := by rw [tI_add (by omega) (by omega), e1, y1]; omega
    refine wp_rd.mpr ⟨y3, ?_⟩
    rw [wp_bn, y2]
    have et : (x.2.2.2 107 (sp - 2)).toInt32.toInt = (x.2.2.2 107 (sp - 2)).toInt := by
      obtain ⟨r1, r2, r3⟩ := hw
      have hy := byK_r (k := (bA u p).toInt)
      exact t64 (by omega) (by omega)
    have hr2 : RDb ((x.2.2.2 107 (sp - 2)).toInt32.toInt, (x.2.2.2 107 (sp - 2)).toInt32.toInt) (bA u p) := by
      obtain ⟨r1, r2, r3⟩ := hr
      have hy := byK_r (k := (bA u p).toInt)
      rw [et]
      refine ⟨r1, r2, ?_⟩
      dsimp only
      omega
    have hw2 : WRb ((x.2.2.2 107 (sp - 2)).toInt32.toInt, (x.2.2.2 107 (sp - 2)).toInt32.toInt) (bA u p) := by
      obtain ⟨r1, r2, r3⟩ := hw
      have hy := byK_r (k := (bA u p).toInt)
      rw [et]
      refine ⟨r1, r2, ?_⟩
      dsimp only
      omega
    refine wp_mono (m_read (u := sI x 112 (x.1 112 - 2)) (by omega) hr2) (fun r z hz => ?_)
    subst hz
    rw [k112]
    refine wp_rd.mpr ⟨y3, wp_rd.mpr ⟨vin_iff.mpr ⟨by omega, by omega⟩, ?_⟩⟩
    rw [y2]
    have fin : ∀ a : Int64, wp (B_run_685 N R l2 (x.2.2.2 107 (sp - 2)).toInt32 (bA u p) a (sI x 112 (x.1 112 - 2))) (fun _ w => RFR u w) := by
      intro a
      unfold B_run_685
      rw [wp_bn]
      refine wp_mono (m_write (by omega) hw2) (fun r y hy => ?_)
      unfold B_run_1519
      have yf : RFR u y := (hf1.sI (by decide)).wr hy
      refine go1 y (p + 1) (sp - 2) σ yf (by rw [hy.1]; exact j113) (by rw [hy.1]; rfl) (by rw [hy.1]; rfl) (by rw [hy.1]; rfl) (by rw [hy.1]; rfl) ⟨hy.2.1 108 (by decide), hy.2.1 111 (by decide), hy.2.1 109 (by decide), hy.2.1 110 (by decide)⟩ ?_ hn (by rw [hop]; decide) ?_ ?_ ?_
      · rw [hy.1, k112, y1]; omega
      · intro i _; rw [hy.2.2 107 (by decide)]; rfl
      · rw [hy.2.2 107 (by decide)]; exact q7
      · rw [hσ]; simp only [List.length_cons]; omega
    exact wp_if.mpr ⟨fun _ => fin _, fun _ => fin _⟩
  · obtain ⟨hop, t, σ, hσ, hn⟩ := h
    rcases hop with hop | hop | hop | hop | hop | hop
    · have z := 0
      refine wp_if.mpr ⟨fun q => absurd (hop.symm.trans q) (by decide), fun _ => ?_⟩
      refine wp_if.mpr ⟨fun q => absurd (hop.symm.trans q) (by decide), fun _ => ?_⟩
      refine wp_if.mpr ⟨fun q => absurd (hop.symm.trans q) (by decide), fun _ => ?_⟩
      refine wp_if.mpr ⟨fun q => absurd (hop.symm.trans q) (by decide), fun _ => ?_⟩
      refine wp_if.mpr ⟨fun q => absurd (hop.symm.trans q) (by decide), fun _ => ?_⟩
      refine wp_if.mpr ⟨fun q => absurd (hop.symm.trans q) (by decide), fun _ => ?_⟩
      refine wp_if.mpr ⟨fun q => absurd (hop.symm.trans q) (by decide), fun _ => ?_⟩
      refine wp_if.mpr ⟨fun q => absurd (hop.symm.trans q) (by decide), fun _ => ?_⟩
      refine wp_if.mpr ⟨fun q => absurd (hop.symm.trans q) (by decide), fun _ => ?_⟩
      refine wp_if.mpr ⟨fun q => absurd (hop.symm.trans q) (by decide), fun _ => ?_⟩
      refine wp_if.mpr ⟨fun q => absurd (hop.symm.trans q) (by decide), fun _ => ?_⟩
      refine wp_if.mpr ⟨fun q => absurd (hop.symm.trans q) (by decide), fun _ => ?_⟩
      refine wp_if.mpr ⟨fun _ => ?_, fun q => absurd hop q⟩
      have q := jvt
      rw [hσ] at q
      obtain ⟨q1, q2, q3, q4⟩ := q
      obtain ⟨z1, z2, z3⟩ := m1 q1
      refine wp_rd.mpr ⟨z3, wp_wr.mpr ⟨z3, ?_⟩⟩
      unfold B_run_1519
      exact un _ t σ hσ nT (nT_in _).1 (nT_in _).2 hn (by rw [hop]; decide)
    · have z := 0
      refine wp_if.mpr ⟨fun q => absurd (hop.symm.trans q) (by decide), fun _ => ?_⟩
      refine wp_if.mpr ⟨fun q => absurd (hop.symm.trans q) (by decide), fun _ => ?_⟩
      refine wp_if.mpr ⟨fun q => absurd (hop.symm.trans q) (by decide), fun _ => ?_⟩
      refine wp_if.mpr ⟨fun q => absurd (hop.symm.trans q) (by decide), fun _ => ?_⟩
      refine wp_if.mpr ⟨fun q => absurd (hop.symm.trans q) (by decide), fun _ => ?_⟩
      refine wp_if.mpr ⟨fun q => absurd (hop.symm.trans q) (by decide), fun _ => ?_⟩
      refine wp_if.mpr ⟨fun q => absurd (hop.symm.trans q) (by decide), fun _ => ?_⟩
      refine wp_if.mpr ⟨fun q => absurd (hop.symm.trans q) (by decide), fun _ => ?_⟩
      refine wp_if.mpr ⟨fun q => absurd (hop.symm.trans q) (by decide), fun _ => ?_⟩
      refine wp_if.mpr ⟨fun q => absurd (hop.symm.trans q) (by decide), fun _ => ?_⟩
      refine wp_if.mpr ⟨fun q => absurd (hop.symm.trans q) (by decide), fun _ => ?_⟩
      refine wp_if.mpr ⟨fun q => absurd (hop.symm.trans q) (by decide), fun _ => ?_⟩
      refine wp_if.mpr ⟨fun q => absurd (hop.symm.trans q) (by decide), fun _ => ?_⟩
      refine wp_if.mpr ⟨fun q => absurd (hop.symm.trans q) (by decide), fun _ => ?_⟩
      refine wp_if.mpr ⟨fun _ => ?_, fun q => absurd hop q⟩
      have q := jvt
      rw [hσ] at q
      obtain ⟨q1, q2, q3, q4⟩ := q
      obtain ⟨z1, z2, z3⟩ := m1 q1
      refine wp_if.mpr ⟨fun _ => ?_, fun _ => ?_⟩
      · unfold B_run_847
        refine wp_rd.mpr ⟨z3, wp_wr.mpr ⟨z3, ?_⟩⟩
        unfold B_run_1519
        exact un _ t σ hσ nT (nT_in _).1 (nT_in _).2 hn (by rw [hop]; decide)
      · unfold B_run_847
        refine wp_rd.mpr ⟨z3, wp_wr.mpr ⟨z3, ?_⟩⟩
        unfold B_run_1519
        exact un _ t σ hσ nT (nT_in _).1 (nT_in _).2 hn (by rw [hop]; decide)
    · have z := 0
      refine wp_if.mpr ⟨fun q => absurd (hop.symm.trans q) (by decide), fun _ => ?_⟩
      refine wp_if.mpr ⟨fun q => absurd (hop.symm.trans q) (by decide), fun _ => ?_⟩
      refine wp_if.mpr ⟨fun q => absurd (hop.symm.trans q) (by decide), fun _ => ?_⟩
      refine wp_if.mpr ⟨fun q => absurd (hop.symm.trans q) (by decide), fun _ => ?_⟩
      refine wp_if.mpr ⟨fun q => absurd (hop.symm.trans q) (by decide), fun _ => ?_⟩
      refine wp_if.mpr ⟨fun q => absurd (hop.symm.trans q) (by decide), fun _ => ?_⟩
      refine wp_if.mpr ⟨fun q => absurd (hop.symm.trans q) (by decide), fun _ => ?_⟩
      refine wp_if.mpr ⟨fun q => absurd (hop.symm.trans q) (by decide), fun _ => ?_⟩
      refine wp_if.mpr ⟨fun q => absurd (hop.symm.trans q) (by decide), fun _ => ?_⟩
      refine wp_if.mpr ⟨fun q => absurd (hop.symm.trans q) (by decide), fun _ => ?_⟩
      refine wp_if.mpr ⟨fun q => absurd (hop.symm.trans q) (by decide), fun _ => ?_⟩
      refine wp_if.mpr ⟨fun q => absurd (hop.symm.trans q) (by decide), fun _ => ?_⟩
      refine wp_if.mpr ⟨fun q => absurd (hop.symm.trans q) (by decide), fun _ => ?_⟩
      refine wp_if.mpr ⟨fun q => absurd (hop.symm.trans q) (by decide), fun _ => ?_⟩
      refine wp_if.mpr ⟨fun q => absurd (hop.symm.trans q) (by decide), fun _ => ?_⟩
      refine wp_if.mpr ⟨fun _ => ?_, fun q => absurd hop q⟩
      have q := jvt
      rw [hσ] at q
      obtain ⟨q1, q2, q3, q4⟩ := q
      obtain ⟨z1, z2, z3⟩ := m1 q1
      refine wp_rd.mpr ⟨z3, wp_wr.mpr ⟨z3, ?_⟩⟩
      unfold B_run_1519
      exact un _ t σ hσ nT (nT_in _).1 (nT_in _).2 hn (by rw [hop]; decide)
    · have z := 0
      refine wp_if.mpr ⟨fun q => absurd (hop.symm.trans q) (by decide), fun _ => ?_⟩
      refine wp_if.mpr ⟨fun q => absurd (hop.symm.trans q) (by decide), fun _ => ?_⟩
      refine wp_if.mpr ⟨fun q => absurd (hop.symm.trans q) (by decide), fun _ => ?_⟩
      refine wp_if.mpr ⟨fun q => absurd (hop.symm.trans q) (by decide), fun _ => ?_⟩
      refine wp_if.mpr ⟨fun q => absurd (hop.symm.trans q) (by decide), fun _ => ?_⟩
      refine wp_if.mpr ⟨fun q => absurd (hop.symm.trans q) (by decide), fun _ => ?_⟩
      refine wp_if.mpr ⟨fun q => absurd (hop.symm.trans q) (by decide), fun _ => ?_⟩
      refine wp_if.mpr ⟨fun q => absurd (hop.symm.trans q) (by decide), fun _ => ?_⟩
      refine wp_if.mpr ⟨fun q => absurd (hop.symm.trans q) (by decide), fun _ => ?_⟩
      refine wp_if.mpr ⟨fun q => absurd (hop.symm.trans q) (by decide), fun _ => ?_⟩
      refine wp_if.mpr ⟨fun q => absurd (hop.symm.trans q) (by decide), fun _ => ?_⟩
      refine wp_if.mpr ⟨fun q => absurd (hop.symm.trans q) (by decide), fun _ => ?_⟩
      refine wp_if.mpr ⟨fun q => absurd (hop.symm.trans q) (by decide), fun _ => ?_⟩
      refine wp_if.mpr ⟨fun q => absurd (hop.symm.trans q) (by decide), fun _ => ?_⟩
      refine wp_if.mpr ⟨fun q => absurd (hop.symm.trans q) (by decide), fun _ => ?_⟩
      refine wp_if.mpr ⟨fun q => absurd (hop.symm.trans q) (by decide), fun _ => ?_⟩
      refine wp_if.mpr ⟨fun _ => ?_, fun q => absurd hop q⟩
      have q := jvt
      rw [hσ] at q
      obtain ⟨q1, q2, q3, q4⟩ := q
      obtain ⟨z1, z2, z3⟩ := m1 q1
      refine wp_rd.mpr ⟨z3, ?_⟩
      refine wp_if.mpr ⟨fun _ => ?_, fun _ => ?_⟩
      · unfold B_run_926
        refine wp_wr.mpr ⟨z3, ?_⟩
        unfold B_run_1519
        exact un _ t σ hσ nT (nT_in _).1 (nT_in _).2 hn (by rw [hop]; decide)
      · unfold B_run_926
        refine wp_wr.mpr ⟨z3, ?_⟩
        unfold B_run_1519
        exact un _ t σ hσ nT (nT_in _).1 (nT_in _).2 hn (by rw [hop]; decide)
    · have z := 0
      refine wp_if.mpr ⟨fun q => absurd (hop.symm.trans q) (by decide), fun _ => ?_⟩
      refine wp_if.mpr ⟨fun q => absurd (hop.symm.trans q) (by decide), fun _ => ?_⟩
      refine wp_if.mpr ⟨fun q => absurd (hop.symm.trans q) (by decide), fun _ => ?_⟩
      refine wp_if.mpr ⟨fun q => absurd (hop.symm.trans q) (by decide), fun _ => ?_⟩
      refine wp_if.mpr ⟨fun q => absurd (hop.symm.trans q) (by decide), fun _ => ?_⟩
      refine wp_if.mpr ⟨fun q => absurd (hop.symm.trans q) (by decide), fun _ => ?_⟩
      refine wp_if.mpr ⟨fun q => absurd (hop.symm.trans q) (by decide), fun _ => ?_⟩
      refine wp_if.mpr ⟨fun q => absurd (hop.symm.trans q) (by decide), fun _ => ?_⟩
      refine wp_if.mpr ⟨fun q => absurd (hop.symm.trans q) (by decide), fun _ => ?_⟩
      refine wp_if.mpr ⟨fun q => absurd (hop.symm.trans q) (by decide), fun _ => ?_⟩
      refine wp_if.mpr ⟨fun q => absurd (hop.symm.trans q) (by decide), fun _ => ?_⟩
      refine wp_if.mpr ⟨fun q => absurd (hop.symm.trans q) (by decide), fun _ => ?_⟩
      refine wp_if.mpr ⟨fun q => absurd (hop.symm.trans q) (by decide), fun _ => ?_⟩
      refine wp_if.mpr ⟨fun q => absurd (hop.symm.trans q) (by decide), fun _ => ?_⟩
      refine wp_if.mpr ⟨fun q => absurd (hop.symm.trans q) (by decide), fun _ => ?_⟩
      refine wp_if.mpr ⟨fun q => absurd (hop.symm.trans q) (by decide), fun _ => ?_⟩
      refine wp_if.mpr ⟨fun q => absurd (hop.symm.trans q) (by decide), fun _ => ?_⟩
      refine wp_if.mpr ⟨fun _ => ?_, fun q => absurd hop q⟩
      have q := jvt
      rw [hσ] at q
      obtain ⟨q1, q2, q3, q4⟩ := q
      obtain ⟨z1, z2, z3⟩ := m1 q1
      refine wp_rd.mpr ⟨z3, wp_wr.mpr ⟨z3, ?_⟩⟩
      unfold B_run_1519
      exact un _ t σ hσ nT (nT_in _).1 (nT_in _).2 hn (by rw [hop]; decide)
    · have z := 0
      refine wp_if.mpr ⟨fun q => absurd (hop.symm.trans q) (by decide), fun _ => ?_⟩
      refine wp_if.mpr ⟨fun q => absurd (hop.symm.trans q) (by decide), fun _ => ?_⟩
      refine wp_if.mpr ⟨fun q => absurd (hop.symm.trans q) (by decide), fun _ => ?_⟩
      refine wp_if.mpr ⟨fun q => absurd (hop.symm.trans q) (by decide), fun _ => ?_⟩
      refine wp_if.mpr ⟨fun q => absurd (hop.symm.trans q) (by decide), fun _ => ?_⟩
      refine wp_if.mpr ⟨fun q => absurd (hop.symm.trans q) (by decide), fun _ => ?_⟩
      refine wp_if.mpr ⟨fun q => absurd (hop.symm.trans q) (by decide), fun _ => ?_⟩
      refine wp_if.mpr ⟨fun q => absurd (hop.symm.trans q) (by decide), fun _ => ?_⟩
      refine wp_if.mpr ⟨fun q => absurd (hop.symm.trans q) (by decide), fun _ => ?_⟩
      refine wp_if.mpr ⟨fun q => absurd (hop.symm.trans q) (by decide), fun _ => ?_⟩
      refine wp_if.mpr ⟨fun q => absurd (hop.symm.trans q) (by decide), fun _ => ?_⟩
      refine wp_if.mpr ⟨fun q => absurd (hop.symm.trans q) (by decide), fun _ => ?_⟩
      refine wp_if.mpr ⟨fun q => absurd (hop.symm.trans q) (by decide), fun _ => ?_⟩
      refine wp_if.mpr ⟨fun q => absurd (hop.symm.trans q) (by decide), fun _ => ?_⟩
      refine wp_if.mpr ⟨fun q => absurd (hop.symm.trans q) (by decide), fun _ => ?_⟩
      refine wp_if.mpr ⟨fun q => absurd (hop.symm.trans q) (by decide), fun _ => ?_⟩
      refine wp_if.mpr ⟨fun q => absurd (hop.symm.trans q) (by decide), fun _ => ?_⟩
      refine wp_if.mpr ⟨fun q => absurd (hop.symm.trans q) (by decide), fun _ => ?_⟩
      refine wp_if.mpr ⟨fun q => absurd (hop.symm.trans q) (by decide), fun _ => ?_⟩
      refine wp_if.mpr ⟨fun q => absurd (hop.symm.trans q) (by decide), fun _ => ?_⟩
      refine wp_if.mpr ⟨fun q => absurd (hop.symm.trans q) (by decide), fun _ => ?_⟩
      refine wp_if.mpr ⟨fun _ => ?_, fun q => absurd hop q⟩
      have q := jvt
      rw [hσ] at q
      obtain ⟨q1, q2, q3, q4⟩ := q
      obtain ⟨z1, z2, z3⟩ := m1 q1
      refine wp_rd.mpr ⟨z3, ?_⟩
      refine wp_if.mpr ⟨fun _ => ?_, fun _ => ?_⟩
      · unfold B_run_1066
        refine wp_wr.mpr ⟨z3, ?_⟩
        unfold B_run_1519
        exact un _ t σ hσ nT (nT_in _).1 (nT_in _).2 hn (by rw [hop]; decide)
      · unfold B_run_1066
        refine wp_wr.mpr ⟨z3, ?_⟩
        unfold B_run_1519
        exact un _ t σ hσ nT (nT_in _).1 (nT_in _).2 hn (by rw [hop]; decide)
  · obtain ⟨hop, s, t, σ, hσ, hn⟩ := h
    refine wp_if.mpr ⟨fun q => absurd (hop.symm.trans q) (by decide), fun _ => ?_⟩
    refine wp_if.mpr ⟨fun q => absurd (hop.symm.trans q) (by decide), fun _ => ?_⟩
    refine wp_if.mpr ⟨fun q => absurd (hop.symm.trans q) (by decide), fun _ => ?_⟩
    refine wp_if.mpr ⟨fun q => absurd (hop.symm.trans q) (by decide), fun _ => ?_⟩
    refine wp_if.mpr ⟨fun q => absurd (hop.symm.trans q) (by decide), fun _ => ?_⟩
    refine wp_if.mpr ⟨fun q => absurd (hop.symm.trans q) (by decide), fun _ => ?_⟩
    refine wp_if.mpr ⟨fun q => absurd (hop.symm.trans q) (by decide), fun _ => ?_⟩
    refine wp_if.mpr ⟨fun q => absurd (hop.symm.trans q) (by decide), fun _ => ?_⟩
    refine wp_if.mpr ⟨fun q => absurd (hop.symm.trans q) (by decide), fun _ => ?_⟩
    refine wp_if.mpr ⟨fun q => absurd (hop.symm.trans q) (by decide), fun _ => ?_⟩
    refine wp_if.mpr ⟨fun q => absurd (hop.symm.trans q) (by decide), fun _ => ?_⟩
    refine wp_if.mpr ⟨fun q => absurd (hop.symm.trans q) (by decide), fun _ => ?_⟩
    refine wp_if.mpr ⟨fun q => absurd (hop.symm.trans q) (by decide), fun _ => ?_⟩
    refine wp_if.mpr ⟨fun _ => ?_, fun q => absurd hop q⟩
    have q := jvt
    rw [hσ] at q
    obtain ⟨q1, q2, q3, q4, q5, q6, q7⟩ := q
    obtain ⟨z1, z2, z3⟩ := m1 q1
    obtain ⟨y1, y2, y3⟩ := m2 (by omega)
    have k112 : (sI x 112 (x.1 112 - 1)).1 112 = x.1 112 - 1 := rfl
    have k1' : (x.1 112 - 1 - 1).toInt = (sp : Int) - 2 := by rw [tI_sub (by omega) (by omega), e1, z1]; omega
    have k1n : (x.1 112 - 1 - 1).toNatClampNeg = sp - 2 := by show (x.1 112 - 1 - 1).toInt.toNat = _; omega
    have k1v : vp_in (x.1 112 - 1 - 1) 6000 := vin_iff.mpr ⟨by omega, by omega⟩
    have bn2 : ∀ a : Int64, wp (R (l2, sB (sI x 112 (x.1 112 - 1)) 107 (x.1 112 - 1 - 1).toNatClampNeg a)) (fun _ w => RFR u w) := by
      intro a
      rw [k1n]
      rw [show sp - 1 - 1 = sp - 2 by omega] at q7
      refine go1 _ (p + 1) (sp - 1) (nT :: σ) (hf1.sI (by decide)).sB j113 rfl rfl rfl rfl ⟨rfl, rfl, rfl, rfl⟩ ?_ hn (by rw [hop]; decide) ?_ ?_ ?_
      · show (x.1 112 - 1).toInt = _; rw [z1]; omega
      · intro i hi
        rw [hσ] at hi
        simp only [List.length_cons] at hi
        show vp_updL (x.2.2.2 107) (sp - 2) a i = _
        unfold vp_updL
        rw [if_neg (by omega)]
      · have := q7.push (t := nT) (v := a) (nT_in _).1 (nT_in _).2
        rw [show sp - 2 + 1 = sp - 1 by omega] at this
        exact this
      · rw [hσ]; simp only [List.length_cons]; omega
    refine wp_pu.mpr ?_
    have e799 : ∀ s3 : Int32, ¬ ((aA u p = 243 ∨ aA u p = 244) ∧ x.2.2.2 107 (sp - 1) = 0) → wp (B_run_799 N R l2 (x.1 112 - 1 - 1) (aA u p) s3 (sI x 112 (x.1 112 - 1))) (fun _ w => RFR u w) := by
      intro s3 hz
      unfold B_run_799
      rw [k112]
      refine wp_rd.mpr ⟨k1v, wp_rd.mpr ⟨z3, wp_ok.mpr ⟨?_, wp_wr.mpr ⟨k1v, ?_⟩⟩⟩⟩
      · rw [z2]; exact hz
      · unfold B_run_1519
        exact bn2 _
    have e771 : ¬ ((aA u p = 243 ∨ aA u p = 244) ∧ x.2.2.2 107 (sp - 1) = 0) → wp (B_run_771 N R l2 (v.1 113) (aA u p) (sI x 112 (x.1 112 - 1))) (fun _ w => RFR u w) := by
      intro hz
      unfold B_run_771
      refine wp_rd.mpr ⟨hpv, ?_⟩
      rw [k112]
      exact wp_if.mpr ⟨fun _ => e799 _ hz, fun _ => e799 _ hz⟩
    have e747 : wp (B_run_747 N R l2 (v.1 113) (aA u p) (bA u p) (sI x 112 (x.1 112 - 1))) (fun _ w => RFR u w) := by
      unfold B_run_747
      rw [k112]
      refine wp_rd.mpr ⟨z3, wp_if.mpr ⟨fun _ => stops 1 _ _ (by decide) (hf1.sI (by decide)), fun c1 => e771 ?_⟩⟩
      rw [z2] at c1
      exact fun w => c1 w.2
    refine wp_if.mpr ⟨fun _ => e747, fun c1 => wp_if.mpr ⟨fun _ => e747, fun c2 => e771 ?_⟩⟩
    rintro ⟨w | w, -⟩
    · exact c1 w
    · exact c2 w
  · obtain ⟨hop, t, σ, p', hσ, hn, ha, hn2⟩ := h
    rcases hop with hop | hop
    · have z := 0
      refine wp_if.mpr ⟨fun q => absurd (hop.symm.trans q) (by decide), fun _ => ?_⟩
      refine wp_if.mpr ⟨fun q => absurd (hop.symm.trans q) (by decide), fun _ => ?_⟩
      refine wp_if.mpr ⟨fun q => absurd (hop.symm.trans q) (by decide), fun _ => ?_⟩
      refine wp_if.mpr ⟨fun q => absurd (hop.symm.trans q) (by decide), fun _ => ?_⟩
      refine wp_if.mpr ⟨fun q => absurd (hop.symm.trans q) (by decide), fun _ => ?_⟩
      refine wp_if.mpr ⟨fun q => absurd (hop.symm.trans q) (by decide), fun _ => ?_⟩
      refine wp_if.mpr ⟨fun q => absurd (hop.symm.trans q) (by decide), fun _ => ?_⟩
      refine wp_if.mpr ⟨fun q => absurd (hop.symm.trans q) (by decide), fun _ => ?_⟩
      refine wp_if.mpr ⟨fun q => absurd (hop.symm.trans q) (by decide), fun _ => ?_⟩
      refine wp_if.mpr ⟨fun q => absurd (hop.symm.trans q) (by decide), fun _ => ?_⟩
      refine wp_if.mpr ⟨fun q => absurd (hop.symm.trans q) (by decide), fun _ => ?_⟩
      refine wp_if.mpr ⟨fun q => absurd (hop.symm.trans q) (by decide), fun _ => ?_⟩
      refine wp_if.mpr ⟨fun q => absurd (hop.symm.trans q) (by decide), fun _ => ?_⟩
      refine wp_if.mpr ⟨fun q => absurd (hop.symm.trans q) (by decide), fun _ => ?_⟩
      refine wp_if.mpr ⟨fun q => absurd (hop.symm.trans q) (by decide), fun _ => ?_⟩
      refine wp_if.mpr ⟨fun q => absurd (hop.symm.trans q) (by decide), fun _ => ?_⟩
      refine wp_if.mpr ⟨fun q => absurd (hop.symm.trans q) (by decide), fun _ => ?_⟩
      refine wp_if.mpr ⟨fun q => absurd (hop.symm.trans q) (by decide), fun _ => ?_⟩
      refine wp_if.mpr ⟨fun _ => ?_, fun q => absurd hop q⟩
      have q := jvt
      rw [hσ] at q
      obtain ⟨q1, q2, q3, q4⟩ := q
      obtain ⟨z1, z2, z3⟩ := m1 q1
      refine wp_pu.mpr ?_
      have k112 : (sI x 112 (x.1 112 - 1)).1 112 = x.1 112 - 1 := rfl
      rw [k112]
      refine wp_rd.mpr ⟨z3, wp_if.mpr ⟨fun _ => ?_, fun _ => ?_⟩⟩
      · refine wp_pu.mpr ?_
        unfold B_run_1519
        exact pop1 _ t σ p' hσ ((hf1.sI (by decide)).sI (by decide)) ha rfl rfl rfl rfl ⟨rfl, rfl, rfl, rfl⟩ rfl rfl hn2 (by rw [hop]; decide)
      · unfold B_run_1519
        exact pop1 _ t σ (p + 1) hσ (hf1.sI (by decide)) j113 rfl rfl rfl rfl ⟨rfl, rfl, rfl, rfl⟩ rfl rfl hn (by rw [hop]; decide)
    · have z := 0
      refine wp_if.mpr ⟨fun q => absurd (hop.symm.trans q) (by decide), fun _ => ?_⟩
      refine wp_if.mpr ⟨fun q => absurd (hop.symm.trans q) (by decide), fun _ => ?_⟩
      refine wp_if.mpr ⟨fun q => absurd (hop.symm.trans q) (by decide), fun _ => ?_⟩
      refine wp_if.mpr ⟨fun q => absurd (hop.symm.trans q) (by decide), fun _ => ?_⟩
      refine wp_if.mpr ⟨fun q => absurd (hop.symm.trans q) (by decide), fun _ => ?_⟩
      refine wp_if.mpr ⟨fun q => absurd (hop.symm.trans q) (by decide), fun _ => ?_⟩
      refine wp_if.mpr ⟨fun q => absurd (hop.symm.trans q) (by decide), fun _ => ?_⟩
      refine wp_if.mpr ⟨fun q => absurd (hop.symm.trans q) (by decide), fun _ => ?_⟩
      refine wp_if.mpr ⟨fun q => absurd (hop.symm.trans q) (by decide), fun _ => ?_⟩
      refine wp_if.mpr ⟨fun q => absurd (hop.symm.trans q) (by decide), fun _ => ?_⟩
      refine wp_if.mpr ⟨fun q => absurd (hop.symm.trans q) (by decide), fun _ => ?_⟩
      refine wp_if.mpr ⟨fun q => absurd (hop.symm.trans q) (by decide), fun _ => ?_⟩
      refine wp_if.mpr ⟨fun q => absurd (hop.symm.trans q) (by decide), fun _ => ?_⟩
      refine wp_if.mpr ⟨fun q => absurd (hop.symm.trans q) (by decide), fun _ => ?_⟩
      refine wp_if.mpr ⟨fun q => absurd (hop.symm.trans q) (by decide), fun _ => ?_⟩
      refine wp_if.mpr ⟨fun q => absurd (hop.symm.trans q) (by decide), fun _ => ?_⟩
      refine wp_if.mpr ⟨fun q => absurd (hop.symm.trans q) (by decide), fun _ => ?_⟩
      refine wp_if.mpr ⟨fun q => absurd (hop.symm.trans q) (by decide), fun _ => ?_⟩
      refine wp_if.mpr ⟨fun q => absurd (hop.symm.trans q) (by decide), fun _ => ?_⟩
      refine wp_if.mpr ⟨fun _ => ?_, fun q => absurd hop q⟩
      have q := jvt
      rw [hσ] at q
      obtain ⟨q1, q2, q3, q4⟩ := q
      obtain ⟨z1, z2, z3⟩ := m1 q1
      refine wp_pu.mpr ?_
      have k112 : (sI x 112 (x.1 112 - 1)).1 112 = x.1 112 - 1 := rfl
      rw [k112]
      refine wp_rd.mpr ⟨z3, wp_if.mpr ⟨fun _ => ?_, fun _ => ?_⟩⟩
      · unfold B_run_1519
        exact pop1 _ t σ (p + 1) hσ (hf1.sI (by decide)) j113 rfl rfl rfl rfl ⟨rfl, rfl, rfl, rfl⟩ rfl rfl hn (by rw [hop]; decide)
      · refine wp_pu.mpr ?_
        unfold B_run_1519
        exact pop1 _ t σ p' hσ ((hf1.sI (by decide)).sI (by decide)) ha rfl rfl rfl rfl ⟨rfl, rfl, rfl, rfl⟩ rfl rfl hn2 (by rw [hop]; decide)
  · obtain ⟨hop, p', ha, hn⟩ := h
    refine wp_if.mpr ⟨fun q => absurd (hop.symm.trans q) (by decide), fun _ => ?_⟩
    refine wp_if.mpr ⟨fun q => absurd (hop.symm.trans q) (by decide), fun _ => ?_⟩
    refine wp_if.mpr ⟨fun q => absurd (hop.symm.trans q) (by decide), fun _ => ?_⟩
    refine wp_if.mpr ⟨fun q => absurd (hop.symm.trans q) (by decide), fun _ => ?_⟩
    refine wp_if.mpr ⟨fun q => absurd (hop.symm.trans q) (by decide), fun _ => ?_⟩
    refine wp_if.mpr ⟨fun q => absurd (hop.symm.trans q) (by decide), fun _ => ?_⟩
    refine wp_if.mpr ⟨fun q => absurd (hop.symm.trans q) (by decide), fun _ => ?_⟩
    refine wp_if.mpr ⟨fun q => absurd (hop.symm.trans q) (by decide), fun _ => ?_⟩
    refine wp_if.mpr ⟨fun q => absurd (hop.symm.trans q) (by decide), fun _ => ?_⟩
    refine wp_if.mpr ⟨fun q => absurd (hop.symm.trans q) (by decide), fun _ => ?_⟩
    refine wp_if.mpr ⟨fun q => absurd (hop.symm.trans q) (by decide), fun _ => ?_⟩
    refine wp_if.mpr ⟨fun q => absurd (hop.symm.trans q) (by decide), fun _ => ?_⟩
    refine wp_if.mpr ⟨fun q => absurd (hop.symm.trans q) (by decide), fun _ => ?_⟩
    refine wp_if.mpr ⟨fun q => absurd (hop.symm.trans q) (by decide), fun _ => ?_⟩
    refine wp_if.mpr ⟨fun q => absurd (hop.symm.trans q) (by decide), fun _ => ?_⟩
    refine wp_if.mpr ⟨fun q => absurd (hop.symm.trans q) (by decide), fun _ => ?_⟩
    refine wp_if.mpr ⟨fun q => absurd (hop.symm.trans q) (by decide), fun _ => ?_⟩
    refine wp_if.mpr ⟨fun q => absurd (hop.symm.trans q) (by decide), fun _ => ?_⟩
    refine wp_if.mpr ⟨fun q => absurd (hop.symm.trans q) (by decide), fun _ => ?_⟩
    refine wp_if.mpr ⟨fun q => absurd (hop.symm.trans q) (by decide), fun _ => ?_⟩
    refine wp_if.mpr ⟨fun _ => ?_, fun q => absurd hop q⟩
    refine wp_pu.mpr ?_
    unfold B_run_1519
    exact go1 _ p' sp _ (hf1.sI (by decide)) ha rfl rfl rfl rfl ⟨rfl, rfl, rfl, rfl⟩ j112 hn (by rw [hop]; decide) (fun _ _ => rfl) jvt (by omega)
  · obtain ⟨hop, ⟨a1, a4, s, t, σ, hσ, hn⟩ | ⟨a0, t, σ, hσ, hn⟩⟩ := h
    · have z := 0
      refine wp_if.mpr ⟨fun q => absurd (hop.symm.trans q) (by decide), fun _ => ?_⟩
      refine wp_if.mpr ⟨fun q => absurd (hop.symm.trans q) (by decide), fun _ => ?_⟩
      refine wp_if.mpr ⟨fun q => absurd (hop.symm.trans q) (by decide), fun _ => ?_⟩
      refine wp_if.mpr ⟨fun q => absurd (hop.symm.trans q) (by decide), fun _ => ?_⟩
      refine wp_if.mpr ⟨fun q => absurd (hop.symm.trans q) (by decide), fun _ => ?_⟩
      refine wp_if.mpr ⟨fun q => absurd (hop.symm.trans q) (by decide), fun _ => ?_⟩
      refine wp_if.mpr ⟨fun q => absurd (hop.symm.trans q) (by decide), fun _ => ?_⟩
      refine wp_if.mpr ⟨fun q => absurd (hop.symm.trans q) (by decide), fun _ => ?_⟩
      refine wp_if.mpr ⟨fun q => absurd (hop.symm.trans q) (by decide), fun _ => ?_⟩
      refine wp_if.mpr ⟨fun q => absurd (hop.symm.trans q) (by decide), fun _ => ?_⟩
      refine wp_if.mpr ⟨fun q => absurd (hop.symm.trans q) (by decide), fun _ => ?_⟩
      refine wp_if.mpr ⟨fun q => absurd (hop.symm.trans q) (by decide), fun _ => ?_⟩
      refine wp_if.mpr ⟨fun q => absurd (hop.symm.trans q) (by decide), fun _ => ?_⟩
      refine wp_if.mpr ⟨fun q => absurd (hop.symm.trans q) (by decide), fun _ => ?_⟩
      refine wp_if.mpr ⟨fun q => absurd (hop.symm.trans q) (by decide), fun _ => ?_⟩
      refine wp_if.mpr ⟨fun q => absurd (hop.symm.trans q) (by decide), fun _ => ?_⟩
      refine wp_if.mpr ⟨fun q => absurd (hop.symm.trans q) (by decide), fun _ => ?_⟩
      refine wp_if.mpr ⟨fun q => absurd (hop.symm.trans q) (by decide), fun _ => ?_⟩
      refine wp_if.mpr ⟨fun q => absurd (hop.symm.trans q) (by decide), fun _ => ?_⟩
      refine wp_if.mpr ⟨fun q => absurd (hop.symm.trans q) (by decide), fun _ => ?_⟩
      refine wp_if.mpr ⟨fun q => absurd (hop.symm.trans q) (by decide), fun _ => ?_⟩
      refine wp_if.mpr ⟨fun q => absurd (hop.symm.trans q) (by decide), fun _ => ?_⟩
      refine wp_if.mpr ⟨fun _ => ?_, fun q => absurd hop q⟩
      have q := jvt
      rw [hσ] at q
      obtain ⟨q1, q2, q3, q4, q5, q6, q7⟩ := q
      obtain ⟨z1, z2, z3⟩ := m1 q1
      obtain ⟨y1, y2, y3⟩ := m2 (by omega)
      have k112 : (sI x 112 (x.1 112 - 1)).1 112 = x.1 112 - 1 := rfl
      have k1' : (x.1 112 - 1 - 1).toInt = (sp : Int) - 2 := by rw [tI_sub (by omega) (by omega), e1, z1]; omega
      have k1n : (x.1 112 - 1 - 1).toNatClampNeg = sp - 2 := by show (x.1 112 - 1 - 1).toInt.toNat = _; omega
      have k1v : vp_in (x.1 112 - 1 - 1) 6000 := vin_iff.mpr ⟨by omega, by omega⟩
      have bn2 : ∀ a : Int64, wp (R (l2, sB (sI x 112 (x.1 112 - 1)) 107 (x.1 112 - 1 - 1).toNatClampNeg a)) (fun _ w => RFR u w) := by
        intro a
        rw [k1n]
        rw [show sp - 1 - 1 = sp - 2 by omega] at q7
        refine go1 _ (p + 1) (sp - 1) (nT :: σ) (hf1.sI (by decide)).sB j113 rfl rfl rfl rfl ⟨rfl, rfl, rfl, rfl⟩ ?_ hn (by rw [hop]; decide) ?_ ?_ ?_
        · show (x.1 112 - 1).toInt = _; rw [z1]; omega
        · intro i hi
          rw [hσ] at hi
          simp only [List.length_cons] at hi
          show vp_updL (x.2.2.2 107) (sp - 2) a i = _
          unfold vp_updL
          rw [if_neg (by omega)]
        · have := q7.push (t := nT) (v := a) (nT_in _).1 (nT_in _).2
          rw [show sp - 2 + 1 = sp - 1 by omega] at this
          exact this
        · rw [hσ]; simp only [List.length_cons]; omega
      have e5 : (5 : Int32).toInt = 5 := by decide
      refine wp_if.mpr ⟨fun c1 => ?_, fun _ => wp_if.mpr ⟨fun c1 => ?_, fun _ => ?_⟩⟩
      · have := Int32.le_iff_toInt_le.mp c1; omega
      · have := Int32.le_iff_toInt_le.mp c1; omega
      · refine wp_pu.mpr ?_
        rw [k112]
        have e1114 : ∀ s3 : Int32, wp (B_run_1114 N R l2 (x.1 112 - 1 - 1) (aA u p) s3 (sI x 112 (x.1 112 - 1))) (fun _ w => RFR u w) := by
          intro s3
          unfold B_run_1114
          rw [k112]
          refine wp_rd.mpr ⟨k1v, wp_rd.mpr ⟨z3, wp_wr.mpr ⟨k1v, ?_⟩⟩⟩
          unfold B_run_1519
          exact bn2 _
        exact wp_if.mpr ⟨fun _ => e1114 _, fun _ => e1114 _⟩
    · have z := 0
      refine wp_if.mpr ⟨fun q => absurd (hop.symm.trans q) (by decide), fun _ => ?_⟩
      refine wp_if.mpr ⟨fun q => absurd (hop.symm.trans q) (by decide), fun _ => ?_⟩
      refine wp_if.mpr ⟨fun q => absurd (hop.symm.trans q) (by decide), fun _ => ?_⟩
      refine wp_if.mpr ⟨fun q => absurd (hop.symm.trans q) (by decide), fun _ => ?_⟩
      refine wp_if.mpr ⟨fun q => absurd (hop.symm.trans q) (by decide), fun _ => ?_⟩
      refine wp_if.mpr ⟨fun q => absurd (hop.symm.trans q) (by decide), fun _ => ?_⟩
      refine wp_if.mpr ⟨fun q => absurd (hop.symm.trans q) (by decide), fun _ => ?_⟩
      refine wp_if.mpr ⟨fun q => absurd (hop.symm.trans q) (by decide), fun _ => ?_⟩
      refine wp_if.mpr ⟨fun q => absurd (hop.symm.trans q) (by decide), fun _ => ?_⟩
      refine wp_if.mpr ⟨fun q => absurd (hop.symm.trans q) (by decide), fun _ => ?_⟩
      refine wp_if.mpr ⟨fun q => absurd (hop.symm.trans q) (by decide), fun _ => ?_⟩
      refine wp_if.mpr ⟨fun q => absurd (hop.symm.trans q) (by decide), fun _ => ?_⟩
      refine wp_if.mpr ⟨fun q => absurd (hop.symm.trans q) (by decide), fun _ => ?_⟩
      refine wp_if.mpr ⟨fun q => absurd (hop.symm.trans q) (by decide), fun _ => ?_⟩
      refine wp_if.mpr ⟨fun q => absurd (hop.symm.trans q) (by decide), fun _ => ?_⟩
      refine wp_if.mpr ⟨fun q => absurd (hop.symm.trans q) (by decide), fun _ => ?_⟩
      refine wp_if.mpr ⟨fun q => absurd (hop.symm.trans q) (by decide), fun _ => ?_⟩
      refine wp_if.mpr ⟨fun q => absurd (hop.symm.trans q) (by decide), fun _ => ?_⟩
      refine wp_if.mpr ⟨fun q => absurd (hop.symm.trans q) (by decide), fun _ => ?_⟩
      refine wp_if.mpr ⟨fun q => absurd (hop.symm.trans q) (by decide), fun _ => ?_⟩
      refine wp_if.mpr ⟨fun q => absurd (hop.symm.trans q) (by decide), fun _ => ?_⟩
      refine wp_if.mpr ⟨fun q => absurd (hop.symm.trans q) (by decide), fun _ => ?_⟩
      refine wp_if.mpr ⟨fun _ => ?_, fun q => absurd hop q⟩
      have q := jvt
      rw [hσ] at q
      obtain ⟨q1, q2, q3, q4⟩ := q
      obtain ⟨z1, z2, z3⟩ := m1 q1
      have e5 : (5 : Int32).toInt = 5 := by decide
      have e1164 : ∀ s3 : Int32, wp (B_run_1164 N R l2 (x.1 112 - 1) (aA u p) s3 x) (fun _ w => RFR u w) := by
        intro s3
        unfold B_run_1164
        refine wp_rd.mpr ⟨z3, wp_wr.mpr ⟨z3, ?_⟩⟩
        unfold B_run_1519
        exact un _ t σ hσ nT (nT_in _).1 (nT_in _).2 hn (by rw [hop]; decide)
      have e1141 : wp (B_run_1141 N R l2 (aA u p) (bA u p) x) (fun _ w => RFR u w) := by
        unfold B_run_1141
        exact wp_if.mpr ⟨fun _ => e1164 _, fun _ => e1164 _⟩
      refine wp_if.mpr ⟨fun _ => e1141, fun c1 => wp_if.mpr ⟨fun _ => e1141, fun c2 => ?_⟩⟩
      have d1 := Int32.lt_iff_toInt_lt.mp (Int32.not_le.mp c1)
      have d2 := Int32.lt_iff_toInt_lt.mp (Int32.not_le.mp c2)
      exact absurd ⟨by omega, by omega⟩ a0
  · obtain ⟨hop, a0, ⟨a48, -⟩, as, σ, hσ, hpar, ⟨b1, b2, b3, b4, b5⟩, e, he, e1', e2', e3', e4', e5'⟩ := h
    refine wp_if.mpr ⟨fun q => absurd (hop.symm.trans q) (by decide), fun _ => ?_⟩
    refine wp_if.mpr ⟨fun q => absurd (hop.symm.trans q) (by decide), fun _ => ?_⟩
    refine wp_if.mpr ⟨fun q => absurd (hop.symm.trans q) (by decide), fun _ => ?_⟩
    refine wp_if.mpr ⟨fun q => absurd (hop.symm.trans q) (by decide), fun _ => ?_⟩
    refine wp_if.mpr ⟨fun q => absurd (hop.symm.trans q) (by decide), fun _ => ?_⟩
    refine wp_if.mpr ⟨fun q => absurd (hop.symm.trans q) (by decide), fun _ => ?_⟩
    refine wp_if.mpr ⟨fun q => absurd (hop.symm.trans q) (by decide), fun _ => ?_⟩
    refine wp_if.mpr ⟨fun q => absurd (hop.symm.trans q) (by decide), fun _ => ?_⟩
    refine wp_if.mpr ⟨fun q => absurd (hop.symm.trans q) (by decide), fun _ => ?_⟩
    refine wp_if.mpr ⟨fun q => absurd (hop.symm.trans q) (by decide), fun _ => ?_⟩
    refine wp_if.mpr ⟨fun q => absurd (hop.symm.trans q) (by decide), fun _ => ?_⟩
    refine wp_if.mpr ⟨fun q => absurd (hop.symm.trans q) (by decide), fun _ => ?_⟩
    refine wp_if.mpr ⟨fun q => absurd (hop.symm.trans q) (by decide), fun _ => ?_⟩
    refine wp_if.mpr ⟨fun q => absurd (hop.symm.trans q) (by decide), fun _ => ?_⟩
    refine wp_if.mpr ⟨fun q => absurd (hop.symm.trans q) (by decide), fun _ => ?_⟩
    refine wp_if.mpr ⟨fun q => absurd (hop.symm.trans q) (by decide), fun _ => ?_⟩
    refine wp_if.mpr ⟨fun q => absurd (hop.symm.trans q) (by decide), fun _ => ?_⟩
    refine wp_if.mpr ⟨fun q => absurd (hop.symm.trans q) (by decide), fun _ => ?_⟩
    refine wp_if.mpr ⟨fun q => absurd (hop.symm.trans q) (by decide), fun _ => ?_⟩
    refine wp_if.mpr ⟨fun q => absurd (hop.symm.trans q) (by decide), fun _ => ?_⟩
    refine wp_if.mpr ⟨fun q => absurd (hop.symm.trans q) (by decide), fun _ => ?_⟩
    refine wp_if.mpr ⟨fun q => absurd (hop.symm.trans q) (by decide), fun _ => ?_⟩
    refine wp_if.mpr ⟨fun q => absurd (hop.symm.trans q) (by decide), fun _ => ?_⟩
    refine wp_if.mpr ⟨fun _ => ?_, fun q => absurd hop q⟩
    rw [wp_bn]
    unfold F_mayCall B_mayCall_0
    refine wp_if.mpr ⟨fun _ => ?_, fun q8 => ?_⟩
    · rw [wp_bn]
      unfold F_stops B_stops_0
      refine wp_pu.mpr (wp_pu.mpr (wp_some.mpr (wp_some.mpr ?_)))
      rw [if_pos rfl]
      unfold B_run_1519
      exact stp _ ((hf1.sI (by decide)).sI (by decide)) (by show ¬ (4 : Int32) = 0; decide)
    have c8 : c < 8 := by
      have : ¬ (x.1 114).toInt = 8 := fun z => q8 (tI_eq.mpr (by rw [e8]; exact z))
      omega
    have nc : (x.1 114).toNatClampNeg = c := by show (x.1 114).toInt.toNat = c; omega
    have vc : vp_in (x.1 114) 9 := vin_iff.mpr ⟨by omega, by omega⟩
    refine wp_wr.mpr ⟨vc, wp_wr.mpr ⟨vc, wp_wr.mpr ⟨vc, wp_some.mpr ?_⟩⟩⟩
    rw [if_neg (by decide)]
    simp only [sA_1]
    rw [nc]
    have yf : RFR u (sA (sA (sA x 108 c (x.1 113)) 109 c (x.1 115)) 110 c (x.1 116)) := ((hf1.sA (by decide)).sA (by decide)).sA (by decide)
    have y1 : (sA (sA (sA x 108 c (x.1 113)) 109 c (x.1 115)) 110 c (x.1 116)).1 = x.1 := rfl
    have r108 : (sA (sA (sA x 108 c (x.1 113)) 109 c (x.1 115)) 110 c (x.1 116)).2.2.1 108 = upd (x.2.2.1 108) c (x.1 113) := rfl
    have r109 : (sA (sA (sA x 108 c (x.1 113)) 109 c (x.1 115)) 110 c (x.1 116)).2.2.1 109 = upd (x.2.2.1 109) c (x.1 115) := rfl
    have r110 : (sA (sA (sA x 108 c (x.1 113)) 109 c (x.1 115)) 110 c (x.1 116)).2.2.1 110 = upd (x.2.2.1 110) c (x.1 116) := rfl
    have r111 : (sA (sA (sA x 108 c (x.1 113)) 109 c (x.1 115)) 110 c (x.1 116)).2.2.1 111 = x.2.2.1 111 := rfl
    have r107 : (sA (sA (sA x 108 c (x.1 113)) 109 c (x.1 115)) 110 c (x.1 116)).2.2.2 = x.2.2.2 := rfl
    generalize sA (sA (sA x 108 c (x.1 113)) 109 c (x.1 115)) 110 c (x.1 116) = y at yf y1 r108 r109 r110 r111 r107 ⊢
    have uu : ∀ (f : Nat → Int32) (a : Int32), upd f c a c = a := fun f a => by unfold upd; rw [if_pos rfl]
    have un_ : ∀ (f : Nat → Int32) (a : Int32) (i : Nat), i < c → upd f c a i = f i := fun f a i hi => by unfold upd; rw [if_neg (by omega)]
    have hp1 : (x.1 113).toInt.toNat = p + 1 := by omega
    have wrank : wtp u H p = (H p).2.1 := by unfold wtp; rw [if_neg (by rw [hop]; decide)]
    have tb : TBS y := hT.rf yf
    have y30 : y.2.2.1 30 = u.2.2.1 30 := yf.2.1 30 (by decide) (by decide) (by decide) (by decide) (by decide)
    have y32 : y.2.2.1 32 = u.2.2.1 32 := yf.2.1 32 (by decide) (by decide) (by decide) (by decide) (by decide)
    have q := jvt
    rw [hσ] at q
    obtain ⟨q1, q2⟩ := app_len (σ := σ) q
    have hl2 := q1.len
    rw [hσ, List.length_append] at hlen
    rw [wp_bn]
    refine wp_mono (m_enter (by omega) tb a0 a48 (by rw [y1]; omega) (by rw [y1]; omega) (by rw [y1, y30]; omega) (by rw [y1]; omega)) (fun _ z hz => ?_)
    obtain ⟨w0, hw0, hz⟩ := hz
    rw [y30, y32] at hz
    have esub : (y.1 112 - u.2.2.1 30 (aA u p).toNatClampNeg).toInt = ((sp - as.length : Nat) : Int) := by
      rw [y1, tI_sub (by omega) (by omega), j112]; omega
    have ecal : (y.1 114 + 1).toInt = ((c + 1 : Nat) : Int) := by rw [y1, tI_add (by omega) (by omega), e1, j114]; omega
    have hmul : (100 * y.1 114).toInt = 100 * (c : Int) := by
      have e100 : (100 : Int32).toInt = 100 := by decide
      rw [tI_mul (by rw [e100, y1]; omega) (by rw [e100, y1]; omega), e100, y1, j114]
    have ebase : (2100 + 100 * y.1 114).toInt = 2100 + 100 * (c : Int) := by rw [tI_add (by omega) (by omega), e21, hmul]
    have nc' : (y.1 114).toNatClampNeg = c := by rw [y1]; exact nc
    have z113 : z.1 113 = u.2.2.1 32 (aA u p).toNatClampNeg := by rw [hz]; rfl
    have z112 : z.1 112 = y.1 112 - u.2.2.1 30 (aA u p).toNatClampNeg := by rw [hz]; rfl
    have z114 : z.1 114 = y.1 114 + 1 := by rw [hz]; rfl
    have z115 : z.1 115 = 2100 + 100 * y.1 114 := by rw [hz]; rfl
    have z116 : z.1 116 = x.1 116 := by rw [hz]; show w0.1 116 = _; rw [hw0.1, y1]
    have z117 : z.1 117 = x.1 117 := by rw [hz]; show w0.1 117 = _; rw [hw0.1, y1]
    have z108 : z.2.2.1 108 = upd (x.2.2.1 108) c (x.1 113) := by rw [hz]; show w0.2.2.1 108 = _; rw [hw0.2.1 108 (by decide), r108]
    have z109 : z.2.2.1 109 = upd (x.2.2.1 109) c (x.1 115) := by rw [hz]; show w0.2.2.1 109 = _; rw [hw0.2.1 109 (by decide), r109]
    have z110 : z.2.2.1 110 = upd (x.2.2.1 110) c (x.1 116) := by rw [hz]; show w0.2.2.1 110 = _; rw [hw0.2.1 110 (by decide), r110]
    have z111 : z.2.2.1 111 = upd (x.2.2.1 111) c (y.1 112 - u.2.2.1 30 (aA u p).toNatClampNeg) := by
      rw [hz, nc']
      show upd (w0.2.2.1 111) c _ = _
      rw [hw0.2.1 111 (by decide), r111]
    have z107 : z.2.2.2 107 = x.2.2.2 107 := by rw [hz]; show w0.2.2.2 107 = _; rw [hw0.2.2 107 (by decide), r107]
    have zf : RFR u z := by rw [hz]; exact ((((yf.wr hw0).sI (by decide)).sA (by decide)).sI (by decide) |>.sI (by decide)).sI (by decide)
    unfold B_run_1519
    have wE : wtp u H e ≤ 2 := by
      unfold wtp
      rcases e5' with w | w
      · split <;> omega
      · rw [if_pos w]; omega
    have wN : wtp u H (p + 1) ≤ (H (p + 1)).2.1 := by unfold wtp; split <;> omega
    refine ih (((u.1 105).toInt - (z.1 117).toInt).toNat * 2000000 + WS u H (z.2.2.1 108) (c + 1) + wtp u H e + 1) (l2, z) ?_ ⟨zf, Or.inr (Or.inr ⟨e, c + 1, sp - as.length, by rw [z113]; exact he, e1', by omega, by rw [z114]; exact ecal, by omega, by rw [z112]; exact esub, ?_, by rw [z115]; omega, by rw [z115]; omega, by rw [z116]; exact g1, by rw [z116]; exact g2, by rw [z117]; exact k1, by rw [z117]; exact k2, rfl⟩)⟩
    · rw [z117, z108]
      have : WS u H (upd (x.2.2.1 108) c (x.1 113)) (c + 1) = WS u H (x.2.2.1 108) c + wtp u H (p + 1) := by
        show WS u H (upd (x.2.2.1 108) c (x.1 113)) c + wtp u H ((upd (x.2.2.1 108) c (x.1 113)) c).toInt.toNat = _
        rw [WS.fr (fun i hi => un_ _ _ i hi), uu, hp1]
      rw [this]
      omega
    · rw [z107, z108, z109, z110, z111, e3', e4']
      refine ⟨Or.inr rfl, trivial, p + 1, sp - as.length, σ, by rw [uu]; omega, b1, by omega, by rw [uu]; exact esub, by simp, fun _ => b4, fun q => absurd q (by decide), by omega, by rw [uu]; exact f1, by rw [uu]; exact f2, by rw [uu]; exact g1, by rw [uu]; exact g2, ?_⟩
      rw [b3]
      have low2 : LOW H lo E (x.2.2.1 108) (x.2.2.1 111) (x.2.2.1 109) (x.2.2.1 110) (x.2.2.2 107) c (sp - as.length) (H p).1 σ := by
        refine jlow.chg (fun _ _ => rfl) q1 ?_
        rw [hσ, List.length_append]; omega
      exact low2.fr (fun _ _ => rfl) (fun i hi => ⟨un_ _ _ i hi, un_ _ _ i hi, un_ _ _ i hi, un_ _ _ i hi⟩)
  · obtain ⟨hop, a0, ⟨a48, -⟩, ⟨b1, b2, b3, b4, b5⟩, ib0, ib48, e, he, e1', e2', e3', e4', e5'⟩ := h
    refine wp_if.mpr ⟨fun q => absurd (hop.symm.trans q) (by decide), fun _ => ?_⟩
    refine wp_if.mpr ⟨fun q => absurd (hop.symm.trans q) (by decide), fun _ => ?_⟩
    refine wp_if.mpr ⟨fun q => absurd (hop.symm.trans q) (by decide), fun _ => ?_⟩
    refine wp_if.mpr ⟨fun q => absurd (hop.symm.trans q) (by decide), fun _ => ?_⟩
    refine wp_if.mpr ⟨fun q => absurd (hop.symm.trans q) (by decide), fun _ => ?_⟩
    refine wp_if.mpr ⟨fun q => absurd (hop.symm.trans q) (by decide), fun _ => ?_⟩
    refine wp_if.mpr ⟨fun q => absurd (hop.symm.trans q) (by decide), fun _ => ?_⟩
    refine wp_if.mpr ⟨fun q => absurd (hop.symm.trans q) (by decide), fun _ => ?_⟩
    refine wp_if.mpr ⟨fun q => absurd (hop.symm.trans q) (by decide), fun _ => ?_⟩
    refine wp_if.mpr ⟨fun q => absurd (hop.symm.trans q) (by decide), fun _ => ?_⟩
    refine wp_if.mpr ⟨fun q => absurd (hop.symm.trans q) (by decide), fun _ => ?_⟩
    refine wp_if.mpr ⟨fun q => absurd (hop.symm.trans q) (by decide), fun _ => ?_⟩
    refine wp_if.mpr ⟨fun q => absurd (hop.symm.trans q) (by decide), fun _ => ?_⟩
    refine wp_if.mpr ⟨fun q => absurd (hop.symm.trans q) (by decide), fun _ => ?_⟩
    refine wp_if.mpr ⟨fun q => absurd (hop.symm.trans q) (by decide), fun _ => ?_⟩
    refine wp_if.mpr ⟨fun q => absurd (hop.symm.trans q) (by decide), fun _ => ?_⟩
    refine wp_if.mpr ⟨fun q => absurd (hop.symm.trans q) (by decide), fun _ => ?_⟩
    refine wp_if.mpr ⟨fun q => absurd (hop.symm.trans q) (by decide), fun _ => ?_⟩
    refine wp_if.mpr ⟨fun q => absurd (hop.symm.trans q) (by decide), fun _ => ?_⟩
    refine wp_if.mpr ⟨fun q => absurd (hop.symm.trans q) (by decide), fun _ => ?_⟩
    refine wp_if.mpr ⟨fun q => absurd (hop.symm.trans q) (by decide), fun _ => ?_⟩
    refine wp_if.mpr ⟨fun q => absurd (hop.symm.trans q) (by decide), fun _ => ?_⟩
    refine wp_if.mpr ⟨fun q => absurd (hop.symm.trans q) (by decide), fun _ => ?_⟩
    refine wp_if.mpr ⟨fun q => absurd (hop.symm.trans q) (by decide), fun _ => ?_⟩
    refine wp_if.mpr ⟨fun _ => ?_, fun q => absurd hop q⟩
    rw [wp_bn]
    unfold F_mayCall B_mayCall_0
    refine wp_if.mpr ⟨fun _ => ?_, fun q8 => ?_⟩
    · rw [wp_bn]
      unfold F_stops B_stops_0
      refine wp_pu.mpr (wp_pu.mpr (wp_some.mpr (wp_some.mpr ?_)))
      rw [if_pos rfl]
      unfold B_run_1519
      exact stp _ ((hf1.sI (by decide)).sI (by decide)) (by show ¬ (4 : Int32) = 0; decide)
    have c8 : c < 8 := by
      have : ¬ (x.1 114).toInt = 8 := fun z => q8 (tI_eq.mpr (by rw [e8]; exact z))
      omega
    have nc : (x.1 114).toNatClampNeg = c := by show (x.1 114).toInt.toNat = c; omega
    have vc : vp_in (x.1 114) 9 := vin_iff.mpr ⟨by omega, by omega⟩
    refine wp_wr.mpr ⟨vc, wp_wr.mpr ⟨vc, wp_wr.mpr ⟨vc, wp_some.mpr ?_⟩⟩⟩
    rw [if_neg (by decide)]
    simp only [sA_1]
    rw [nc]
    have yf : RFR u (sA (sA (sA x 108 c (x.1 113)) 109 c (x.1 115)) 110 c (x.1 116)) := ((hf1.sA (by decide)).sA (by decide)).sA (by decide)
    have y1 : (sA (sA (sA x 108 c (x.1 113)) 109 c (x.1 115)) 110 c (x.1 116)).1 = x.1 := rfl
    have r108 : (sA (sA (sA x 108 c (x.1 113)) 109 c (x.1 115)) 110 c (x.1 116)).2.2.1 108 = upd (x.2.2.1 108) c (x.1 113) := rfl
    have r109 : (sA (sA (sA x 108 c (x.1 113)) 109 c (x.1 115)) 110 c (x.1 116)).2.2.1 109 = upd (x.2.2.1 109) c (x.1 115) := rfl
    have r110 : (sA (sA (sA x 108 c (x.1 113)) 109 c (x.1 115)) 110 c (x.1 116)).2.2.1 110 = upd (x.2.2.1 110) c (x.1 116) := rfl
    have r111 : (sA (sA (sA x 108 c (x.1 113)) 109 c (x.1 115)) 110 c (x.1 116)).2.2.1 111 = x.2.2.1 111 := rfl
    have r107 : (sA (sA (sA x 108 c (x.1 113)) 109 c (x.1 115)) 110 c (x.1 116)).2.2.2 = x.2.2.2 := rfl
    generalize sA (sA (sA x 108 c (x.1 113)) 109 c (x.1 115)) 110 c (x.1 116) = y at yf y1 r108 r109 r110 r111 r107 ⊢
    have uu : ∀ (f : Nat → Int32) (a : Int32), upd f c a c = a := fun f a => by unfold upd; rw [if_pos rfl]
    have un_ : ∀ (f : Nat → Int32) (a : Int32) (i : Nat), i < c → upd f c a i = f i := fun f a i hi => by unfold upd; rw [if_neg (by omega)]
    have hp1 : (x.1 113).toInt.toNat = p + 1 := by omega
    have wrank : wtp u H p = (H p).2.1 := by unfold wtp; rw [if_neg (by rw [hop]; decide)]
    have y114 : y.1 114 = x.1 114 := by rw [y1]
    have y112 : y.1 112 = x.1 112 := by rw [y1]
    have va : vp_in (aA u p) 48 := vin_iff.mpr ⟨a0, by omega⟩
    refine wp_wr.mpr ⟨vc, wp_pu.mpr ?_⟩
    have ecal : (x.1 114 + 1).toInt = ((c + 1 : Nat) : Int) := by rw [tI_add (by omega) (by omega), e1, j114]; omega
    have k114 : (sA y 111 c (x.1 112)).1 114 = x.1 114 := y114
    rw [k114]
    have k39 : (sI (sA y 111 c (x.1 112)) 114 (x.1 114 + 1)).2.2.1 39 = u.2.2.1 39 := yf.2.1 39 (by decide) (by decide) (by decide) (by decide) (by decide)
    rw [k39]
    refine wp_rd.mpr ⟨va, wp_pu.mpr ?_⟩
    have k38 : (sI (sI (sA y 111 c (x.1 112)) 114 (x.1 114 + 1)) 116 (u.2.2.1 39 (aA u p).toNatClampNeg)).2.2.1 38 = u.2.2.1 38 := yf.2.1 38 (by decide) (by decide) (by decide) (by decide) (by decide)
    have k32 : (sI (sI (sA y 111 c (x.1 112)) 114 (x.1 114 + 1)) 116 (u.2.2.1 39 (aA u p).toNatClampNeg)).2.2.1 32 = u.2.2.1 32 := yf.2.1 32 (by decide) (by decide) (by decide) (by decide) (by decide)
    rw [k38, k32]
    refine wp_rd.mpr ⟨va, wp_rd.mpr ⟨vin_iff.mpr ⟨ib0, by omega⟩, wp_pu.mpr ?_⟩⟩
    unfold B_run_1519
    obtain ⟨-, -, t39, -, -⟩ := hT
    have s39 := t39 (aA u p).toNatClampNeg
    have zf : RFR u (sI (sI (sI (sA y 111 c (x.1 112)) 114 (x.1 114 + 1)) 116 (u.2.2.1 39 (aA u p).toNatClampNeg)) 113 (u.2.2.1 32 (u.2.2.1 38 (aA u p).toNatClampNeg).toNatClampNeg)) := (((yf.sA (by decide)).sI (by decide)).sI (by decide)).sI (by decide)
    have z112 : (sI (sI (sI (sA y 111 c (x.1 112)) 114 (x.1 114 + 1)) 116 (u.2.2.1 39 (aA u p).toNatClampNeg)) 113 (u.2.2.1 32 (u.2.2.1 38 (aA u p).toNatClampNeg).toNatClampNeg)).1 112 = x.1 112 := y112
    have z114 : (sI (sI (sI (sA y 111 c (x.1 112)) 114 (x.1 114 + 1)) 116 (u.2.2.1 39 (aA u p).toNatClampNeg)) 113 (u.2.2.1 32 (u.2.2.1 38 (aA u p).toNatClampNeg).toNatClampNeg)).1 114 = x.1 114 + 1 := rfl
    have z115 : (sI (sI (sI (sA y 111 c (x.1 112)) 114 (x.1 114 + 1)) 116 (u.2.2.1 39 (aA u p).toNatClampNeg)) 113 (u.2.2.1 32 (u.2.2.1 38 (aA u p).toNatClampNeg).toNatClampNeg)).1 115 = x.1 115 := by show y.1 115 = _; rw [y1]
    have z116 : (sI (sI (sI (sA y 111 c (x.1 112)) 114 (x.1 114 + 1)) 116 (u.2.2.1 39 (aA u p).toNatClampNeg)) 113 (u.2.2.1 32 (u.2.2.1 38 (aA u p).toNatClampNeg).toNatClampNeg)).1 116 = u.2.2.1 39 (aA u p).toNatClampNeg := rfl
    have z117 : (sI (sI (sI (sA y 111 c (x.1 112)) 114 (x.1 114 + 1)) 116 (u.2.2.1 39 (aA u p).toNatClampNeg)) 113 (u.2.2.1 32 (u.2.2.1 38 (aA u p).toNatClampNeg).toNatClampNeg)).1 117 = x.1 117 := by show y.1 117 = _; rw [y1]
    have z113 : (sI (sI (sI (sA y 111 c (x.1 112)) 114 (x.1 114 + 1)) 116 (u.2.2.1 39 (aA u p).toNatClampNeg)) 113 (u.2.2.1 32 (u.2.2.1 38 (aA u p).toNatClampNeg).toNatClampNeg)).1 113 = u.2.2.1 32 (u.2.2.1 38 (aA u p).toNatClampNeg).toNatClampNeg := rfl
    have z108 : (sI (sI (sI (sA y 111 c (x.1 112)) 114 (x.1 114 + 1)) 116 (u.2.2.1 39 (aA u p).toNatClampNeg)) 113 (u.2.2.1 32 (u.2.2.1 38 (aA u p).toNatClampNeg).toNatClampNeg)).2.2.1 108 = upd (x.2.2.1 108) c (x.1 113) := r108
    have z109 : (sI (sI (sI (sA y 111 c (x.1 112)) 114 (x.1 114 + 1)) 116 (u.2.2.1 39 (aA u p).toNatClampNeg)) 113 (u.2.2.1 32 (u.2.2.1 38 (aA u p).toNatClampNeg).toNatClampNeg)).2.2.1 109 = upd (x.2.2.1 109) c (x.1 115) := r109
    have z110 : (sI (sI (sI (sA y 111 c (x.1 112)) 114 (x.1 114 + 1)) 116 (u.2.2.1 39 (aA u p).toNatClampNeg)) 113 (u.2.2.1 32 (u.2.2.1 38 (aA u p).toNatClampNeg).toNatClampNeg)).2.2.1 110 = upd (x.2.2.1 110) c (x.1 116) := r110
    have z111 : (sI (sI (sI (sA y 111 c (x.1 112)) 114 (x.1 114 + 1)) 116 (u.2.2.1 39 (aA u p).toNatClampNeg)) 113 (u.2.2.1 32 (u.2.2.1 38 (aA u p).toNatClampNeg).toNatClampNeg)).2.2.1 111 = upd (x.2.2.1 111) c (x.1 112) := by
      show upd (y.2.2.1 111) c (x.1 112) = _
      rw [r111]
    have z107 : (sI (sI (sI (sA y 111 c (x.1 112)) 114 (x.1 114 + 1)) 116 (u.2.2.1 39 (aA u p).toNatClampNeg)) 113 (u.2.2.1 32 (u.2.2.1 38 (aA u p).toNatClampNeg).toNatClampNeg)).2.2.2 107 = x.2.2.2 107 := by show y.2.2.2 107 = _; rw [r107]
    generalize sI (sI (sI (sA y 111 c (x.1 112)) 114 (x.1 114 + 1)) 116 (u.2.2.1 39 (aA u p).toNatClampNeg)) 113 (u.2.2.1 32 (u.2.2.1 38 (aA u p).toNatClampNeg).toNatClampNeg) = z at zf z112 z113 z114 z115 z116 z117 z107 z108 z109 z110 z111 ⊢
    have wE : wtp u H e ≤ 2 := by
      unfold wtp
      rcases e5' with w | w
      · split <;> omega
      · rw [if_pos w]; omega
    have wN : wtp u H (p + 1) ≤ (H (p + 1)).2.1 := by unfold wtp; split <;> omega
    refine ih (((u.1 105).toInt - (z.1 117).toInt).toNat * 2000000 + WS u H (z.2.2.1 108) (c + 1) + wtp u H e + 1) (l2, z) ?_ ⟨zf, Or.inr (Or.inr ⟨e, c + 1, sp, by rw [z113]; exact he, e1', by omega, by rw [z114]; exact ecal, by omega, by rw [z112]; exact j112, ?_, by rw [z115]; exact f1, by rw [z115]; exact f2, by rw [z116]; exact s39.1, by rw [z116]; exact s39.2, by rw [z117]; exact k1, by rw [z117]; exact k2, rfl⟩)⟩
    · rw [z117, z108]
      have : WS u H (upd (x.2.2.1 108) c (x.1 113)) (c + 1) = WS u H (x.2.2.1 108) c + wtp u H (p + 1) := by
        show WS u H (upd (x.2.2.1 108) c (x.1 113)) c + wtp u H ((upd (x.2.2.1 108) c (x.1 113)) c).toInt.toNat = _
        rw [WS.fr (fun i hi => un_ _ _ i hi), uu, hp1]
      rw [this]
      omega
    · rw [z107, z108, z109, z110, z111, e3', e4']
      refine ⟨Or.inl rfl, trivial, p + 1, sp, (H p).2.2, by rw [uu]; omega, b1, by omega, by rw [uu]; exact j112, by simp, fun q => absurd q (by decide), fun _ => b4, hlen, by rw [uu]; exact f1, by rw [uu]; exact f2, by rw [uu]; exact g1, by rw [uu]; exact g2, ?_⟩
      rw [b3]
      exact jlow.fr (fun _ _ => rfl) (fun i hi => ⟨un_ _ _ i hi, un_ _ _ i hi, un_ _ _ i hi, un_ _ _ i hi⟩)
  · obtain ⟨hop, hm, hrk1⟩ := h
    refine wp_if.mpr ⟨fun q => absurd (hop.symm.trans q) (by decide), fun _ => ?_⟩
    refine wp_if.mpr ⟨fun q => absurd (hop.symm.trans q) (by decide), fun _ => ?_⟩
    refine wp_if.mpr ⟨fun q => absurd (hop.symm.trans q) (by decide), fun _ => ?_⟩
    refine wp_if.mpr ⟨fun q => absurd (hop.symm.trans q) (by decide), fun _ => ?_⟩
    refine wp_if.mpr ⟨fun q => absurd (hop.symm.trans q) (by decide), fun _ => ?_⟩
    refine wp_if.mpr ⟨fun q => absurd (hop.symm.trans q) (by decide), fun _ => ?_⟩
    refine wp_if.mpr ⟨fun q => absurd (hop.symm.trans q) (by decide), fun _ => ?_⟩
    refine wp_if.mpr ⟨fun q => absurd (hop.symm.trans q) (by decide), fun _ => ?_⟩
    refine wp_if.mpr ⟨fun q => absurd (hop.symm.trans q) (by decide), fun _ => ?_⟩
    refine wp_if.mpr ⟨fun q => absurd (hop.symm.trans q) (by decide), fun _ => ?_⟩
    refine wp_if.mpr ⟨fun q => absurd (hop.symm.trans q) (by decide), fun _ => ?_⟩
    refine wp_if.mpr ⟨fun q => absurd (hop.symm.trans q) (by decide), fun _ => ?_⟩
    refine wp_if.mpr ⟨fun q => absurd (hop.symm.trans q) (by decide), fun _ => ?_⟩
    refine wp_if.mpr ⟨fun q => absurd (hop.symm.trans q) (by decide), fun _ => ?_⟩
    refine wp_if.mpr ⟨fun q => absurd (hop.symm.trans q) (by decide), fun _ => ?_⟩
    refine wp_if.mpr ⟨fun q => absurd (hop.symm.trans q) (by decide), fun _ => ?_⟩
    refine wp_if.mpr ⟨fun q => absurd (hop.symm.trans q) (by decide), fun _ => ?_⟩
    refine wp_if.mpr ⟨fun q => absurd (hop.symm.trans q) (by decide), fun _ => ?_⟩
    refine wp_if.mpr ⟨fun q => absurd (hop.symm.trans q) (by decide), fun _ => ?_⟩
    refine wp_if.mpr ⟨fun q => absurd (hop.symm.trans q) (by decide), fun _ => ?_⟩
    refine wp_if.mpr ⟨fun q => absurd (hop.symm.trans q) (by decide), fun _ => ?_⟩
    refine wp_if.mpr ⟨fun q => absurd (hop.symm.trans q) (by decide), fun _ => ?_⟩
    refine wp_if.mpr ⟨fun q => absurd (hop.symm.trans q) (by decide), fun _ => ?_⟩
    refine wp_if.mpr ⟨fun q => absurd (hop.symm.trans q) (by decide), fun _ => ?_⟩
    refine wp_if.mpr ⟨fun q => absurd (hop.symm.trans q) (by decide), fun _ => ?_⟩
    refine wp_if.mpr ⟨fun _ => ?_, fun q => absurd hop q⟩
    refine wp_if.mpr ⟨fun _ => ?_, fun c0 => ?_⟩
    · unfold B_run_1519
      exact ih 0 (0, x) (by omega) ⟨hf1, Or.inl rfl⟩
    have cpos : ¬ c = 0 := fun z => c0 (tI_eq.mpr (by rw [e0, j114, z]; rfl))
    have hm1 : (H p).1 = 1 := by
      rcases hm with w | w
      · exfalso
        cases c with
        | zero => exact cpos rfl
        | succ c => have := jlow.1; omega
      · exact w
    obtain ⟨c', r, t', σ', hc, b1, b2, b3, b4, b5, b6, b7, b8, b9, b10, b11, b12, b13, b14⟩ := lv x (Or.inl hm1) (by rw [hop]; decide) hrk1
    obtain ⟨l1', l2', l3'⟩ := lvw c' hc
    rw [wp_bn]
    refine wp_mono (m_leave (u := u) l3') (fun _ z hz => ?_)
    obtain ⟨z112, z113, z114, z115, z116, z117, z2, zf⟩ := hz
    have zf := zf hf1
    rw [l2'] at z112 z113 z115 z116
    unfold B_run_1519
    refine ih (((u.1 105).toInt - (z.1 117).toInt).toNat * 2000000 + WS u H (z.2.2.1 108) c' + wtp u H r + 1) (l2, z) ?_ ⟨zf, Or.inr (Or.inr ⟨r, c', t', by rw [z113]; exact b1, b2, b3, by rw [z114]; exact l1', by omega, by rw [z112]; exact b4, ?_, by rw [z115]; exact b8, by rw [z115]; exact b9, by rw [z116]; exact b10, by rw [z116]; exact b11, by rw [z117]; exact k1, by rw [z117]; exact k2, rfl⟩)⟩
    · rw [z117, z2]; omega
    · rw [z2, b6 hm1]; exact b12
  · obtain ⟨hop, hm, hrk1, t, σ, hσ⟩ := h
    refine wp_if.mpr ⟨fun q => absurd (hop.symm.trans q) (by decide), fun _ => ?_⟩
    refine wp_if.mpr ⟨fun q => absurd (hop.symm.trans q) (by decide), fun _ => ?_⟩
    refine wp_if.mpr ⟨fun q => absurd (hop.symm.trans q) (by decide), fun _ => ?_⟩
    refine wp_if.mpr ⟨fun q => absurd (hop.symm.trans q) (by decide), fun _ => ?_⟩
    refine wp_if.mpr ⟨fun q => absurd (hop.symm.trans q) (by decide), fun _ => ?_⟩
    refine wp_if.mpr ⟨fun q => absurd (hop.symm.trans q) (by decide), fun _ => ?_⟩
    refine wp_if.mpr ⟨fun q => absurd (hop.symm.trans q) (by decide), fun _ => ?_⟩
    refine wp_if.mpr ⟨fun q => absurd (hop.symm.trans q) (by decide), fun _ => ?_⟩
    refine wp_if.mpr ⟨fun q => absurd (hop.symm.trans q) (by decide), fun _ => ?_⟩
    refine wp_if.mpr ⟨fun q => absurd (hop.symm.trans q) (by decide), fun _ => ?_⟩
    refine wp_if.mpr ⟨fun q => absurd (hop.symm.trans q) (by decide), fun _ => ?_⟩
    refine wp_if.mpr ⟨fun q => absurd (hop.symm.trans q) (by decide), fun _ => ?_⟩
    refine wp_if.mpr ⟨fun q => absurd (hop.symm.trans q) (by decide), fun _ => ?_⟩
    refine wp_if.mpr ⟨fun q => absurd (hop.symm.trans q) (by decide), fun _ => ?_⟩
    refine wp_if.mpr ⟨fun q => absurd (hop.symm.trans q) (by decide), fun _ => ?_⟩
    refine wp_if.mpr ⟨fun q => absurd (hop.symm.trans q) (by decide), fun _ => ?_⟩
    refine wp_if.mpr ⟨fun q => absurd (hop.symm.trans q) (by decide), fun _ => ?_⟩
    refine wp_if.mpr ⟨fun q => absurd (hop.symm.trans q) (by decide), fun _ => ?_⟩
    refine wp_if.mpr ⟨fun q => absurd (hop.symm.trans q) (by decide), fun _ => ?_⟩
    refine wp_if.mpr ⟨fun q => absurd (hop.symm.trans q) (by decide), fun _ => ?_⟩
    refine wp_if.mpr ⟨fun q => absurd (hop.symm.trans q) (by decide), fun _ => ?_⟩
    refine wp_if.mpr ⟨fun q => absurd (hop.symm.trans q) (by decide), fun _ => ?_⟩
    refine wp_if.mpr ⟨fun q => absurd (hop.symm.trans q) (by decide), fun _ => ?_⟩
    refine wp_if.mpr ⟨fun q => absurd (hop.symm.trans q) (by decide), fun _ => ?_⟩
    refine wp_if.mpr ⟨fun q => absurd (hop.symm.trans q) (by decide), fun _ => ?_⟩
    refine wp_if.mpr ⟨fun q => absurd (hop.symm.trans q) (by decide), fun _ => ?_⟩
    refine wp_if.mpr ⟨fun _ => ?_, fun q => absurd hop q⟩
    have q := jvt
    rw [hσ] at q
    obtain ⟨q1, q2, q3, q4⟩ := q
    obtain ⟨z1, z2, z3⟩ := m1 q1
    refine wp_rd.mpr ⟨z3, ?_⟩
    obtain ⟨c', r, t', σ', hc, b1, b2, b3, b4, b5, b6, b7, b8, b9, b10, b11, b12, b13, b14⟩ := lv x (Or.inr hm) (by rw [hop]; decide) hrk1
    obtain ⟨l1', l2', l3'⟩ := lvw c' hc
    rw [wp_bn]
    refine wp_mono (m_leave (u := u) l3') (fun _ z hz => ?_)
    obtain ⟨z112, z113, z114, z115, z116, z117, z2x, zf⟩ := hz
    have zf := zf hf1
    rw [l2'] at z112 z113 z115 z116
    have ht6 := b12.tp b7
    have et : (z.1 112 + 1).toInt = ((t' + 1 : Nat) : Int) := by rw [z112, tI_add (by omega) (by omega), e1, b4]; omega
    have nt' : (z.1 112).toNatClampNeg = t' := by rw [z112]; show (x.2.2.1 111 c').toInt.toNat = _; omega
    refine wp_pu.mpr (wp_wr.mpr ⟨vin_iff.mpr ⟨by rw [z112]; omega, by rw [z112]; omega⟩, ?_⟩)
    unfold B_run_1519
    rw [nt']
    have s107 : ∀ a, (sB (sI z 112 (z.1 112 + 1)) 107 t' a).2.2.2 107 = vp_updL (x.2.2.2 107) t' a := by
      intro a
      show vp_updL (z.2.2.2 107) t' a = _
      rw [z2x]
    have s3 : ∀ a, (sB (sI z 112 (z.1 112 + 1)) 107 t' a).2.2.1 = x.2.2.1 := by
      intro a
      show z.2.2.1 = _
      rw [z2x]
    refine ih (((u.1 105).toInt - (z.1 117).toInt).toNat * 2000000 + WS u H (x.2.2.1 108) c' + wtp u H r + 1) (l2, _) ?_ ⟨(zf.sI (by decide)).sB, Or.inr (Or.inr ⟨r, c', t' + 1, ?_, b2, b3, ?_, by omega, ?_, ?_, ?_, ?_, ?_, ?_, ?_, ?_, ?_⟩)⟩
    · rw [z117]; omega
    · show (z.1 113).toInt = _; rw [z113]; exact b1
    · show (z.1 114).toInt = _; rw [z114]; exact l1'
    · show (z.1 112 + 1).toInt = _; exact et
    · rw [s107, s3, b5 hm]
      have b12v := b12.vt
      refine b12.chg (fun i hi => ?_) (b12v.push (nT_in _).1 (nT_in _).2) ?_
      · unfold vp_updL
        rw [if_neg (by omega)]
      · simp only [List.length_cons]; omega
    · show 2100 ≤ (z.1 115).toInt; rw [z115]; exact b8
    · show (z.1 115).toInt ≤ 2900; rw [z115]; exact b9
    · show 0 ≤ (z.1 116).toInt; rw [z116]; exact b10
    · show (z.1 116).toInt ≤ 2000; rw [z116]; exact b11
    · show 0 ≤ (z.1 117).toInt; rw [z117]; exact k1
    · show (z.1 117).toInt ≤ _; rw [z117]; exact k2
    · rw [s3]; rfl
  · obtain ⟨hop, t, σ, hσ⟩ := h
    refine wp_if.mpr ⟨fun q => absurd (hop.symm.trans q) (by decide), fun _ => ?_⟩
    refine wp_if.mpr ⟨fun q => absurd (hop.symm.trans q) (by decide), fun _ => ?_⟩
    refine wp_if.mpr ⟨fun q => absurd (hop.symm.trans q) (by decide), fun _ => ?_⟩
    refine wp_if.mpr ⟨fun q => absurd (hop.symm.trans q) (by decide), fun _ => ?_⟩
    refine wp_if.mpr ⟨fun q => absurd (hop.symm.trans q) (by decide), fun _ => ?_⟩
    refine wp_if.mpr ⟨fun q => absurd (hop.symm.trans q) (by decide), fun _ => ?_⟩
    refine wp_if.mpr ⟨fun q => absurd (hop.symm.trans q) (by decide), fun _ => ?_⟩
    refine wp_if.mpr ⟨fun q => absurd (hop.symm.trans q) (by decide), fun _ => ?_⟩
    refine wp_if.mpr ⟨fun q => absurd (hop.symm.trans q) (by decide), fun _ => ?_⟩
    refine wp_if.mpr ⟨fun q => absurd (hop.symm.trans q) (by decide), fun _ => ?_⟩
    refine wp_if.mpr ⟨fun q => absurd (hop.symm.trans q) (by decide), fun _ => ?_⟩
    refine wp_if.mpr ⟨fun q => absurd (hop.symm.trans q) (by decide), fun _ => ?_⟩
    refine wp_if.mpr ⟨fun q => absurd (hop.symm.trans q) (by decide), fun _ => ?_⟩
    refine wp_if.mpr ⟨fun q => absurd (hop.symm.trans q) (by decide), fun _ => ?_⟩
    refine wp_if.mpr ⟨fun q => absurd (hop.symm.trans q) (by decide), fun _ => ?_⟩
    refine wp_if.mpr ⟨fun q => absurd (hop.symm.trans q) (by decide), fun _ => ?_⟩
    refine wp_if.mpr ⟨fun q => absurd (hop.symm.trans q) (by decide), fun _ => ?_⟩
    refine wp_if.mpr ⟨fun q => absurd (hop.symm.trans q) (by decide), fun _ => ?_⟩
    refine wp_if.mpr ⟨fun q => absurd (hop.symm.trans q) (by decide), fun _ => ?_⟩
    refine wp_if.mpr ⟨fun q => absurd (hop.symm.trans q) (by decide), fun _ => ?_⟩
    refine wp_if.mpr ⟨fun q => absurd (hop.symm.trans q) (by decide), fun _ => ?_⟩
    refine wp_if.mpr ⟨fun q => absurd (hop.symm.trans q) (by decide), fun _ => ?_⟩
    refine wp_if.mpr ⟨fun q => absurd (hop.symm.trans q) (by decide), fun _ => ?_⟩
    refine wp_if.mpr ⟨fun q => absurd (hop.symm.trans q) (by decide), fun _ => ?_⟩
    refine wp_if.mpr ⟨fun q => absurd (hop.symm.trans q) (by decide), fun _ => ?_⟩
    refine wp_if.mpr ⟨fun q => absurd (hop.symm.trans q) (by decide), fun _ => ?_⟩
    refine wp_if.mpr ⟨fun q => absurd (hop.symm.trans q) (by decide), fun _ => ?_⟩
    refine wp_if.mpr ⟨fun _ => ?_, fun q => absurd hop q⟩
    have q := jvt
    rw [hσ] at q
    obtain ⟨q1, q2, q3, q4⟩ := q
    obtain ⟨z1, z2, z3⟩ := m1 q1
    refine wp_pu.mpr ?_
    have k112 : (sI x 112 (x.1 112 - 1)).1 112 = x.1 112 - 1 := rfl
    rw [k112]
    refine wp_rd.mpr ⟨z3, wp_pu.mpr ?_⟩
    exact stops 5 _ _ (by decide) (hf1.sI (by decide)).sL
  · obtain ⟨hop, t, σ, p', hσ, hn, ha, hn2⟩ := h
    refine wp_if.mpr ⟨fun q => absurd (hop.symm.trans q) (by decide), fun _ => ?_⟩
    refine wp_if.mpr ⟨fun q => absurd (hop.symm.trans q) (by decide), fun _ => ?_⟩
    refine wp_if.mpr ⟨fun q => absurd (hop.symm.trans q) (by decide), fun _ => ?_⟩
    refine wp_if.mpr ⟨fun q => absurd (hop.symm.trans q) (by decide), fun _ => ?_⟩
    refine wp_if.mpr ⟨fun q => absurd (hop.symm.trans q) (by decide), fun _ => ?_⟩
    refine wp_if.mpr ⟨fun q => absurd (hop.symm.trans q) (by decide), fun _ => ?_⟩
    refine wp_if.mpr ⟨fun q => absurd (hop.symm.trans q) (by decide), fun _ => ?_⟩
    refine wp_if.mpr ⟨fun q => absurd (hop.symm.trans q) (by decide), fun _ => ?_⟩
    refine wp_if.mpr ⟨fun q => absurd (hop.symm.trans q) (by decide), fun _ => ?_⟩
    refine wp_if.mpr ⟨fun q => absurd (hop.symm.trans q) (by decide), fun _ => ?_⟩
    refine wp_if.mpr ⟨fun q => absurd (hop.symm.trans q) (by decide), fun _ => ?_⟩
    refine wp_if.mpr ⟨fun q => absurd (hop.symm.trans q) (by decide), fun _ => ?_⟩
    refine wp_if.mpr ⟨fun q => absurd (hop.symm.trans q) (by decide), fun _ => ?_⟩
    refine wp_if.mpr ⟨fun q => absurd (hop.symm.trans q) (by decide), fun _ => ?_⟩
    refine wp_if.mpr ⟨fun q => absurd (hop.symm.trans q) (by decide), fun _ => ?_⟩
    refine wp_if.mpr ⟨fun q => absurd (hop.symm.trans q) (by decide), fun _ => ?_⟩
    refine wp_if.mpr ⟨fun q => absurd (hop.symm.trans q) (by decide), fun _ => ?_⟩
    refine wp_if.mpr ⟨fun q => absurd (hop.symm.trans q) (by decide), fun _ => ?_⟩
    refine wp_if.mpr ⟨fun q => absurd (hop.symm.trans q) (by decide), fun _ => ?_⟩
    refine wp_if.mpr ⟨fun q => absurd (hop.symm.trans q) (by decide), fun _ => ?_⟩
    refine wp_if.mpr ⟨fun q => absurd (hop.symm.trans q) (by decide), fun _ => ?_⟩
    refine wp_if.mpr ⟨fun q => absurd (hop.symm.trans q) (by decide), fun _ => ?_⟩
    refine wp_if.mpr ⟨fun q => absurd (hop.symm.trans q) (by decide), fun _ => ?_⟩
    refine wp_if.mpr ⟨fun q => absurd (hop.symm.trans q) (by decide), fun _ => ?_⟩
    refine wp_if.mpr ⟨fun q => absurd (hop.symm.trans q) (by decide), fun _ => ?_⟩
    refine wp_if.mpr ⟨fun q => absurd (hop.symm.trans q) (by decide), fun _ => ?_⟩
    refine wp_if.mpr ⟨fun q => absurd (hop.symm.trans q) (by decide), fun _ => ?_⟩
    refine wp_if.mpr ⟨fun q => absurd (hop.symm.trans q) (by decide), fun _ => ?_⟩
    refine wp_if.mpr ⟨fun _ => ?_, fun q => absurd hop q⟩
    have q := jvt
    rw [hσ] at q
    obtain ⟨q1, q2, q3, q4⟩ := q
    obtain ⟨z1, z2, z3⟩ := m1 q1
    have stay : wp (R (l2, x)) (fun _ w => RFR u w) := go1 x (p + 1) sp _ hf1 j113 rfl rfl rfl rfl ⟨rfl, rfl, rfl, rfl⟩ j112 (by rw [← hσ] at hn; exact hn) (by rw [hop]; decide) (fun _ _ => rfl) jvt (by omega)
    refine wp_rd.mpr ⟨z3, wp_rd.mpr ⟨hpv, wp_if.mpr ⟨fun _ => ?_, fun _ => wp_rd.mpr ⟨z3, wp_rd.mpr ⟨hpv, wp_if.mpr ⟨fun _ => ?_, fun _ => ?_⟩⟩⟩⟩⟩⟩
    · unfold B_run_1519; exact stay
    · unfold B_run_1519; exact stay
    · refine wp_pu.mpr (wp_pu.mpr ?_)
      unfold B_run_1519
      exact pop1 _ t σ p' hσ ((hf1.sI (by decide)).sI (by decide)) ha rfl rfl rfl rfl ⟨rfl, rfl, rfl, rfl⟩ rfl rfl hn2 (by rw [hop]; decide)
  · obtain ⟨hop, t, σ, hσ, hn⟩ := h
    refine wp_if.mpr ⟨fun q => absurd (hop.symm.trans q) (by decide), fun _ => ?_⟩
    refine wp_if.mpr ⟨fun q => absurd (hop.symm.trans q) (by decide), fun _ => ?_⟩
    refine wp_if.mpr ⟨fun q => absurd (hop.symm.trans q) (by decide), fun _ => ?_⟩
    refine wp_if.mpr ⟨fun q => absurd (hop.symm.trans q) (by decide), fun _ => ?_⟩
    refine wp_if.mpr ⟨fun q => absurd (hop.symm.trans q) (by decide), fun _ => ?_⟩
    refine wp_if.mpr ⟨fun q => absurd (hop.symm.trans q) (by decide), fun _ => ?_⟩
    refine wp_if.mpr ⟨fun q => absurd (hop.symm.trans q) (by decide), fun _ => ?_⟩
    refine wp_if.mpr ⟨fun q => absurd (hop.symm.trans q) (by decide), fun _ => ?_⟩
    refine wp_if.mpr ⟨fun q => absurd (hop.symm.trans q) (by decide), fun _ => ?_⟩
    refine wp_if.mpr ⟨fun q => absurd (hop.symm.trans q) (by decide), fun _ => ?_⟩
    refine wp_if.mpr ⟨fun q => absurd (hop.symm.trans q) (by decide), fun _ => ?_⟩
    refine wp_if.mpr ⟨fun q => absurd (hop.symm.trans q) (by decide), fun _ => ?_⟩
    refine wp_if.mpr ⟨fun q => absurd (hop.symm.trans q) (by decide), fun _ => ?_⟩
    refine wp_if.mpr ⟨fun q => absurd (hop.symm.trans q) (by decide), fun _ => ?_⟩
    refine wp_if.mpr ⟨fun q => absurd (hop.symm.trans q) (by decide), fun _ => ?_⟩
    refine wp_if.mpr ⟨fun q => absurd (hop.symm.trans q) (by decide), fun _ => ?_⟩
    refine wp_if.mpr ⟨fun q => absurd (hop.symm.trans q) (by decide), fun _ => ?_⟩
    refine wp_if.mpr ⟨fun q => absurd (hop.symm.trans q) (by decide), fun _ => ?_⟩
    refine wp_if.mpr ⟨fun q => absurd (hop.symm.trans q) (by decide), fun _ => ?_⟩
    refine wp_if.mpr ⟨fun q => absurd (hop.symm.trans q) (by decide), fun _ => ?_⟩
    refine wp_if.mpr ⟨fun q => absurd (hop.symm.trans q) (by decide), fun _ => ?_⟩
    refine wp_if.mpr ⟨fun q => absurd (hop.symm.trans q) (by decide), fun _ => ?_⟩
    refine wp_if.mpr ⟨fun q => absurd (hop.symm.trans q) (by decide), fun _ => ?_⟩
    refine wp_if.mpr ⟨fun q => absurd (hop.symm.trans q) (by decide), fun _ => ?_⟩
    refine wp_if.mpr ⟨fun q => absurd (hop.symm.trans q) (by decide), fun _ => ?_⟩
    refine wp_if.mpr ⟨fun q => absurd (hop.symm.trans q) (by decide), fun _ => ?_⟩
    refine wp_if.mpr ⟨fun q => absurd (hop.symm.trans q) (by decide), fun _ => ?_⟩
    refine wp_if.mpr ⟨fun q => absurd (hop.symm.trans q) (by decide), fun _ => ?_⟩
    refine wp_if.mpr ⟨fun q => absurd (hop.symm.trans q) (by decide), fun _ => ?_⟩
    refine wp_if.mpr ⟨fun _ => ?_, fun q => absurd hop q⟩
    refine wp_pu.mpr ?_
    unfold B_run_1519
    exact pop1 _ t σ (p + 1) hσ (hf1.sI (by decide)) j113 rfl rfl rfl rfl ⟨rfl, rfl, rfl, rfl⟩ rfl rfl hn (by rw [hop]; decide)
  · obtain ⟨hop, s, t, σ, p', hσ, hn, ha, hn2⟩ := h
    rcases hop with hop | hop
    · have z := 0
      refine wp_if.mpr ⟨fun q => absurd (hop.symm.trans q) (by decide), fun _ => ?_⟩
      refine wp_if.mpr ⟨fun q => absurd (hop.symm.trans q) (by decide), fun _ => ?_⟩
      refine wp_if.mpr ⟨fun q => absurd (hop.symm.trans q) (by decide), fun _ => ?_⟩
      refine wp_if.mpr ⟨fun q => absurd (hop.symm.trans q) (by decide), fun _ => ?_⟩
      refine wp_if.mpr ⟨fun q => absurd (hop.symm.trans q) (by decide), fun _ => ?_⟩
      refine wp_if.mpr ⟨fun q => absurd (hop.symm.trans q) (by decide), fun _ => ?_⟩
      refine wp_if.mpr ⟨fun q => absurd (hop.symm.trans q) (by decide), fun _ => ?_⟩
      refine wp_if.mpr ⟨fun q => absurd (hop.symm.trans q) (by decide), fun _ => ?_⟩
      refine wp_if.mpr ⟨fun q => absurd (hop.symm.trans q) (by decide), fun _ => ?_⟩
      refine wp_if.mpr ⟨fun q => absurd (hop.symm.trans q) (by decide), fun _ => ?_⟩
      refine wp_if.mpr ⟨fun q => absurd (hop.symm.trans q) (by decide), fun _ => ?_⟩
      refine wp_if.mpr ⟨fun q => absurd (hop.symm.trans q) (by decide), fun _ => ?_⟩
      refine wp_if.mpr ⟨fun q => absurd (hop.symm.trans q) (by decide), fun _ => ?_⟩
      refine wp_if.mpr ⟨fun q => absurd (hop.symm.trans q) (by decide), fun _ => ?_⟩
      refine wp_if.mpr ⟨fun q => absurd (hop.symm.trans q) (by decide), fun _ => ?_⟩
      refine wp_if.mpr ⟨fun q => absurd (hop.symm.trans q) (by decide), fun _ => ?_⟩
      refine wp_if.mpr ⟨fun q => absurd (hop.symm.trans q) (by decide), fun _ => ?_⟩
      refine wp_if.mpr ⟨fun q => absurd (hop.symm.trans q) (by decide), fun _ => ?_⟩
      refine wp_if.mpr ⟨fun q => absurd (hop.symm.trans q) (by decide), fun _ => ?_⟩
      refine wp_if.mpr ⟨fun q => absurd (hop.symm.trans q) (by decide), fun _ => ?_⟩
      refine wp_if.mpr ⟨fun q => absurd (hop.symm.trans q) (by decide), fun _ => ?_⟩
      refine wp_if.mpr ⟨fun q => absurd (hop.symm.trans q) (by decide), fun _ => ?_⟩
      refine wp_if.mpr ⟨fun q => absurd (hop.symm.trans q) (by decide), fun _ => ?_⟩
      refine wp_if.mpr ⟨fun q => absurd (hop.symm.trans q) (by decide), fun _ => ?_⟩
      refine wp_if.mpr ⟨fun q => absurd (hop.symm.trans q) (by decide), fun _ => ?_⟩
      refine wp_if.mpr ⟨fun q => absurd (hop.symm.trans q) (by decide), fun _ => ?_⟩
      refine wp_if.mpr ⟨fun q => absurd (hop.symm.trans q) (by decide), fun _ => ?_⟩
      refine wp_if.mpr ⟨fun q => absurd (hop.symm.trans q) (by decide), fun _ => ?_⟩
      refine wp_if.mpr ⟨fun q => absurd (hop.symm.trans q) (by decide), fun _ => ?_⟩
      refine wp_if.mpr ⟨fun q => absurd (hop.symm.trans q) (by decide), fun _ => ?_⟩
      refine wp_if.mpr ⟨fun _ => ?_, fun q => absurd hop q⟩
      have q := jvt
      rw [hσ] at q
      obtain ⟨q1, q2, q3, q4, q5, q6, q7⟩ := q
      obtain ⟨z1, z2, z3⟩ := m1 q1
      refine wp_pu.mpr ?_
      have k112 : (sI x 112 (x.1 112 - 1)).1 112 = x.1 112 - 1 := rfl
      rw [k112]
      have k1' : (x.1 112 - 1 - 1).toInt = (sp : Int) - 2 := by rw [tI_sub (by omega) (by omega), e1, z1]; omega
      refine wp_rd.mpr ⟨z3, wp_rd.mpr ⟨vin_iff.mpr ⟨by omega, by omega⟩, wp_if.mpr ⟨fun _ => ?_, fun _ => ?_⟩⟩⟩
      · unfold B_run_1519
        exact pop1 _ s (t :: σ) (p + 1) hσ (hf1.sI (by decide)) j113 rfl rfl rfl rfl ⟨rfl, rfl, rfl, rfl⟩ rfl rfl hn (by rw [hop]; decide)
      · refine wp_pu.mpr ?_
        unfold B_run_1519
        exact pop1 _ s (t :: σ) p' hσ ((hf1.sI (by decide)).sI (by decide)) ha rfl rfl rfl rfl ⟨rfl, rfl, rfl, rfl⟩ rfl rfl hn2 (by rw [hop]; decide)
    · have z := 0
      refine wp_if.mpr ⟨fun q => absurd (hop.symm.trans q) (by decide), fun _ => ?_⟩
      refine wp_if.mpr ⟨fun q => absurd (hop.symm.trans q) (by decide), fun _ => ?_⟩
      refine wp_if.mpr ⟨fun q => absurd (hop.symm.trans q) (by decide), fun _ => ?_⟩
      refine wp_if.mpr ⟨fun q => absurd (hop.symm.trans q) (by decide), fun _ => ?_⟩
      refine wp_if.mpr ⟨fun q => absurd (hop.symm.trans q) (by decide), fun _ => ?_⟩
      refine wp_if.mpr ⟨fun q => absurd (hop.symm.trans q) (by decide), fun _ => ?_⟩
      refine wp_if.mpr ⟨fun q => absurd (hop.symm.trans q) (by decide), fun _ => ?_⟩
      refine wp_if.mpr ⟨fun q => absurd (hop.symm.trans q) (by decide), fun _ => ?_⟩
      refine wp_if.mpr ⟨fun q => absurd (hop.symm.trans q) (by decide), fun _ => ?_⟩
      refine wp_if.mpr ⟨fun q => absurd (hop.symm.trans q) (by decide), fun _ => ?_⟩
      refine wp_if.mpr ⟨fun q => absurd (hop.symm.trans q) (by decide), fun _ => ?_⟩
      refine wp_if.mpr ⟨fun q => absurd (hop.symm.trans q) (by decide), fun _ => ?_⟩
      refine wp_if.mpr ⟨fun q => absurd (hop.symm.trans q) (by decide), fun _ => ?_⟩
      refine wp_if.mpr ⟨fun q => absurd (hop.symm.trans q) (by decide), fun _ => ?_⟩
      refine wp_if.mpr ⟨fun q => absurd (hop.symm.trans q) (by decide), fun _ => ?_⟩
      refine wp_if.mpr ⟨fun q => absurd (hop.symm.trans q) (by decide), fun _ => ?_⟩
      refine wp_if.mpr ⟨fun q => absurd (hop.symm.trans q) (by decide), fun _ => ?_⟩
      refine wp_if.mpr ⟨fun q => absurd (hop.symm.trans q) (by decide), fun _ => ?_⟩
      refine wp_if.mpr ⟨fun q => absurd (hop.symm.trans q) (by decide), fun _ => ?_⟩
      refine wp_if.mpr ⟨fun q => absurd (hop.symm.trans q) (by decide), fun _ => ?_⟩
      refine wp_if.mpr ⟨fun q => absurd (hop.symm.trans q) (by decide), fun _ => ?_⟩
      refine wp_if.mpr ⟨fun q => absurd (hop.symm.trans q) (by decide), fun _ => ?_⟩
      refine wp_if.mpr ⟨fun q => absurd (hop.symm.trans q) (by decide), fun _ => ?_⟩
      refine wp_if.mpr ⟨fun q => absurd (hop.symm.trans q) (by decide), fun _ => ?_⟩
      refine wp_if.mpr ⟨fun q => absurd (hop.symm.trans q) (by decide), fun _ => ?_⟩
      refine wp_if.mpr ⟨fun q => absurd (hop.symm.trans q) (by decide), fun _ => ?_⟩
      refine wp_if.mpr ⟨fun q => absurd (hop.symm.trans q) (by decide), fun _ => ?_⟩
      refine wp_if.mpr ⟨fun q => absurd (hop.symm.trans q) (by decide), fun _ => ?_⟩
      refine wp_if.mpr ⟨fun q => absurd (hop.symm.trans q) (by decide), fun _ => ?_⟩
      refine wp_if.mpr ⟨fun q => absurd (hop.symm.trans q) (by decide), fun _ => ?_⟩
      refine wp_if.mpr ⟨fun q => absurd (hop.symm.trans q) (by decide), fun _ => ?_⟩
      have q := jvt
      rw [hσ] at q
      obtain ⟨q1, q2, q3, q4, q5, q6, q7⟩ := q
      obtain ⟨z1, z2, z3⟩ := m1 q1
      refine wp_pu.mpr ?_
      have k112 : (sI x 112 (x.1 112 - 1)).1 112 = x.1 112 - 1 := rfl
      rw [k112]
      have k1' : (x.1 112 - 1 - 1).toInt = (sp : Int) - 2 := by rw [tI_sub (by omega) (by omega), e1, z1]; omega
      refine wp_rd.mpr ⟨z3, wp_rd.mpr ⟨vin_iff.mpr ⟨by omega, by omega⟩, wp_if.mpr ⟨fun _ => ?_, fun _ => ?_⟩⟩⟩
      · refine wp_pu.mpr ?_
        unfold B_run_1519
        exact pop1 _ s (t :: σ) p' hσ ((hf1.sI (by decide)).sI (by decide)) ha rfl rfl rfl rfl ⟨rfl, rfl, rfl, rfl⟩ rfl rfl hn2 (by rw [hop]; decide)
      · unfold B_run_1519
        exact pop1 _ s (t :: σ) (p + 1) hσ (hf1.sI (by decide)) j113 rfl rfl rfl rfl ⟨rfl, rfl, rfl, rfl⟩ rfl rfl hn (by rw [hop]; decide)
end RRun
