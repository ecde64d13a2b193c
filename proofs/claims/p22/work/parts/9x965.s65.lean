/-! The second pass: Items. Tasks. -/
/-- a task of the class was told -/
def TBc (w w' : CSt) (t : Nat) (ev af : Int32) : Prop := w'.1 = w.1 ∧ w'.2.1 = w.2.1 ∧ w'.2.2.1 = w.2.2.1 ∧ w'.2.2.2.1 = w.2.2.2.1 ∧ w'.2.2.2.2.1 = w.2.2.2.2.1 ∧ w'.2.2.2.2.2.1 = w.2.2.2.2.2.1 ∧ w'.2.2.2.2.2.2.2.2 = w.2.2.2.2.2.2.2.2 ∧ (∀ p k, p ≠ t → tI w' p k = tI w p k) ∧ tI w' t 0 = ev ∧ tI w' t 1 = af ∧ (∀ j, j ∈ [3, 4, 5, 6, 7, 8, 9] → tI w' t j = 0)
/-- and one of the reference -/
def TKr (x y : RSt) (b nm : Nat) (ev af : Int32) : Prop := (∀ k, k ∉ [70, 74] → y.1 k = x.1 k) ∧ y.1 70 = 1 ∧ y.1 74 = 0 ∧ (∀ k, k ∉ [43, 44, 45, 48] → y.2.2.1 k = x.2.2.1 k) ∧ (∀ k, k ∉ [46, 47] → y.2.2.2 k = x.2.2.2 k) ∧ y.2.2.1 43 = upd (x.2.2.1 43) b ev ∧ y.2.2.1 44 = upd (x.2.2.1 44) b af ∧ y.2.2.2 46 = vp_updL (x.2.2.2 46) b (x.2.2.2 6 nm) ∧ y.2.2.2 47 = vp_updL (x.2.2.2 47) b (x.2.2.2 7 nm) ∧ y.2.2.1 48 = upd (x.2.2.1 48) (x.1 56).toNatClampNeg (x.2.2.1 48 (x.1 56).toNatClampNeg + 1)
section Tk
variable {v w w2 w3 : CSt} {u x x2 y : RSt} {q s T G n i j o l N m k0 t b nm : Nat} {e : E5} {c : R5} {p ev af l1 l2 st : Int32} {ty : Nat → Int32}
theorem tI_neq {k : Nat} {a : Int32} {p j : Nat} (h : p ≠ t ∨ j ≠ k) : tI (xtI v t k a) p j = tI v p j := by
  show (if p = t then (if j = k then a else tI v p j) else tI v p j) = _
  by_cases e : p = t
  · rw [if_pos e, if_neg (by omega)]
  · rw [if_neg e]
theorem tI_at {k j : Nat} {a : Int32} : tI (xtI v t k a) t j = if j = k then a else tI v t j := by
  show (if t = t then (if j = k then a else tI v t j) else tI v t j) = _
  rw [if_pos rfl]
/-- nothing but the task t changes -/
def BT9 (w w' : CSt) (t : Nat) : Prop := w'.1 = w.1 ∧ w'.2.1 = w.2.1 ∧ w'.2.2.1 = w.2.2.1 ∧ w'.2.2.2.1 = w.2.2.2.1 ∧ w'.2.2.2.2.1 = w.2.2.2.2.1 ∧ w'.2.2.2.2.2.1 = w.2.2.2.2.2.1 ∧ w'.2.2.2.2.2.2.2.2 = w.2.2.2.2.2.2.2.2 ∧ (∀ p k, p ≠ t → tI w' p k = tI w p k)
theorem BT9_f {k : Nat} {a : Int32} (h : BT9 w v t) : BT9 w (xtI v t k a) t := by
  obtain ⟨h1, h2, h3, h4, h5, h6, h7, h8⟩ := h
  exact ⟨h1, h2, h3, h4, h5, h6, h7, fun p j hp => (tI_neq (Or.inl hp)).trans (h8 p j hp)⟩
theorem BT9_rf : BT9 w w t := ⟨rfl, rfl, rfl, rfl, rfl, rfl, rfl, fun _ _ _ => rfl⟩
theorem k2_tbec {β : Type} {Q : β → CSt → Prop} {k : Int32 → CSt → Option (β × CSt)} (kk : ∀ w', TBc w w' t ev af → pq (k 0 w') Q) : pq (bc (F_X7_become N t ev af st w) k) Q := by
  refine pq_bc ?_
  unfold F_X7_become B_X7_become_0
  refine pq_pc (pq_pc (pq_pc (pq_pc (pq_pc (pq_pc (pq_pc (pq_pc (pq_pc (pq_pc (pq_some (kk _ ?_)))))))))))
  obtain ⟨h1, h2, h3, h4, h5, h6, h7, h8⟩ := BT9_f (k := 9) (a := 0) (BT9_f (k := 8) (a := 0) (BT9_f (k := 7) (a := 0) (BT9_f (k := 6) (a := 0) (BT9_f (k := 5) (a := 0) (BT9_f (k := 4) (a := 0) (BT9_f (k := 3) (a := 0) (BT9_f (k := 2) (a := st) (BT9_f (k := 1) (a := af) (BT9_f (k := 0) (a := ev) (BT9_rf (w := w) (t := t)))))))))))
  refine ⟨h1, h2, h3, h4, h5, h6, h7, h8, ?_, ?_, fun j hj => ?_⟩
  · (repeat (rw [tI_at, if_neg (by decide)])); rw [tI_at, if_pos rfl]
  · (repeat (rw [tI_at, if_neg (by decide)])); rw [tI_at, if_pos rfl]
  · simp only [List.mem_cons, List.not_mem_nil, or_false] at hj
    rcases hj with z | z | z | z | z | z | z <;> (rw [z]; (repeat (rw [tI_at, if_neg (by decide)])); rw [tI_at, if_pos rfl])
theorem y_task {Q : Int32 → RSt → Prop} (h' : RE x x j o l c) (hj : ¬ x.1 69 = 0) (hb : l1.toNatClampNeg = b) (hn : l2.toNatClampNeg = nm) (kk : ∀ y, TKr x y b nm ev af → pp (B_tasked_213 N y) Q) : pp (B_tasked_125 N l1 l2 ev af x) Q := by
  unfold B_tasked_125
  refine pp_pu (pp_pu ?_)
  refine pp_if (fun z => absurd z hj) (fun _ => pp_if (fun _ => ?_) (fun z => absurd h'.2.1 z))
  refine pp_wr (pp_wr (y_here (fun a => pp_wr (pp_rd (pp_wr (pp_rd (pp_wr (pp_rd (pp_wr (kk _ ?_))))))))))
  rw [← hb, ← hn]
  refine ⟨fun k hk => ?_, rfl, rfl, fun k hk => ?_, fun k hk => ?_, rfl, rfl, rfl, rfl, rfl⟩
  · simp only [List.mem_cons, List.not_mem_nil, or_false, not_or] at hk
    show (sI (sI x 70 1) 74 0).1 k = _
    rw [sI_1, if_neg hk.2, sI_1, if_neg hk.1]
  · simp only [List.mem_cons, List.not_mem_nil, or_false, not_or] at hk
    rw [sA_3, if_neg hk.2.2.2]
    show (sA (sA (sA _ 43 _ _) 44 _ _) 45 _ _).2.2.1 k = _
    rw [sA_3, if_neg hk.2.2.1, sA_3, if_neg hk.2.1, sA_3, if_neg hk.1]
    rfl
  · simp only [List.mem_cons, List.not_mem_nil, or_false, not_or] at hk
    show (sB (sB _ 46 _ _) 47 _ _).2.2.2 k = _
    rw [sB_4, if_neg hk.2, sB_4, if_neg hk.1]
    rfl
theorem m8 {a b : Int32} {s k : Nat} (h : a.toInt = (s : Int)) (hs : s < 2) (hb : b.toInt = (k : Int)) (hk : k ≤ 200) : (8 * a + b).toInt = (8 * s + k : Nat) := by
  have e8 : (8 : Int32).toInt = 8 := by decide
  have a1 : (8 * a).toInt = (8 * s : Nat) := by rw [tI_mul (by rw [e8, h]; omega) (by rw [e8, h]; omega), e8, h]; omega
  rw [tI_add (by omega) (by omega), a1, hb]
  omega
theorem IT_task (hV : EV1 v u n) (hTR : TR v u q s T G) (hT2 : TR2 v u q s T) (hO : OWN0 v u q) (hT : T < 160) (hk0 : (u.2.2.1 48 s).toInt = (k0 : Int)) (hk8 : k0 < 8) (hnr : NmR (cB v 205 nm) (cA v 206 nm) (u.2.2.2 6 nm) (u.2.2.2 7 nm)) (f1 : ∀ y, y < T → gl v (169 * q + y) → ¬ (mL v (169 * q + y) 0 = cB v 205 nm ∧ mI v (169 * q + y) 1 = cA v 206 nm)) (f2 : ∀ j, j < 8 → ¬ (cA v 206 nm = 0 ∧ cB v 205 nm = mL v (169 * q + (160 + j)) 0)) (hN : NGc v w q T 2 2 k0 (cB v 205 nm) (cA v 206 nm)) (hX : TLr u x G 2 (u.2.2.1 48 s) nm) (hw : cfr w w2) (hB : TBc w2 w3 (8 * q + k0) ev af) (hev : 1 ≤ ev.toInt ∧ ev.toInt ≤ 1000 ∧ 0 ≤ af.toInt ∧ af.toInt < ev.toInt) (hA : TKr x2 y (8 * s + k0) nm ev af) (hc2 : CE w2 w2 j 0 e) (h16 : e.1 = 0) (hr2 : RE x x2 j o 0 c) : IT w3 y q s n j o (T + 1) (G + 1) ∧ OWN0 w3 y q ∧ tyF w3 = tyF v := by
  have e1 : (1 : Int32).toInt = 1 := by decide
  obtain ⟨t1, t2, t3, t4, t5, t5', t6, t7, t8, t9, t10, t11, t12, t13, t14, t15, t16, t17⟩ := id hTR
  obtain ⟨s1, s2, s3, s4, s5, s6, s7⟩ := id hT2
  obtain ⟨c0, c1, c2, c3, c4, c5, c6, c7, c8, c9, c10⟩ := id s2
  have tkw := tkC_tr (NGc_tk hN) (cfT_tk (M := []) (cfT_c hw))
  obtain ⟨n1, n2, n3, n4, n5, n6, n7, n8, n9, n10, n11, n12, n13, n14⟩ := id hN
  obtain ⟨g1, g2, g3, g4, g5, g6, g7, g8, g9, g10, g11, g12⟩ := n12
  obtain ⟨p1, p2, p3, p4, p5⟩ := n7
  obtain ⟨l1, l2, l3, l4, l5, l6, l7, l8, l9, l10, l11⟩ := id hX
  obtain ⟨B1, B2, B3, B4, B5, B6, B7, B8, B9, B10, B11⟩ := hB
  obtain ⟨q1, q2, q3, q4, q5, q6, q7, q8, q9, q10⟩ := hA
  have wm : ∀ m k, mI w3 m k = mI w m k := fun m k => by
    show w3.2.2.2.2.2.2.2.2.1 m k = _
    rw [B7]
    exact cfr_m hw m k
  have wl : ∀ m k, mL w3 m k = mL w m k := fun m k => by
    show w3.2.2.2.2.2.2.2.2.2.1 m k = _
    rw [B7]
    exact cfr_l hw m k
  have wR : ∀ k, cR w3 k = cR v k := fun k => by
    show w3.2.2.2.2.2.2.2.2.2.2 k = v.2.2.2.2.2.2.2.2.2.2 k
    rw [B7]
    show w2.2.2.2.2.2.2.2.2.2.2 k = _
    rw [hw.2.2.2.2.2, n9]
  have pI3 : ∀ p k, k ∉ [13, 14] → pI w3 p k = pI w p k := fun p k hk => by
    show w3.2.2.2.2.1 p k = _
    rw [B5]
    exact hw.2.2.2.1 p k hk
  have wA : ∀ k, k ∉ [11, 12, 13, 14] → pA w3 q k = pA w q k := fun k hk => by
    show w3.2.2.2.2.2.1 q k = _
    rw [B6]
    exact hw.2.2.2.2.1 q k hk
  have wI : ∀ k, k ∉ [5, 13, 14, 15, 16, 17] → cI w3 k = cI v k := fun k hk => by
    show w3.1 k = _
    rw [B1]
    exact (hw.1 k hk).trans (n1 k hk)
  have wC : ∀ k, k ∉ [230, 231, 232, 233] → cA w3 k = cA v k := fun k hk => by
    show w3.2.2.1 k = _
    rw [B3]
    exact (hw.2.1 k hk).trans (n2 k hk)
  have tk3 : tkC w2 w3 := by
    refine ⟨?_, ?_, ?_, ?_, ?_, ?_, ?_, by show w3.1 7 = w2.1 7; rw [B1]⟩
    · show w3.1 4 = w2.1 4
      rw [B1]
    · show w3.2.2.1 203 = w2.2.2.1 203
      rw [B3]
    · show w3.2.2.1 204 = w2.2.2.1 204
      rw [B3]
    · show w3.2.2.1 206 = w2.2.2.1 206
      rw [B3]
    · show w3.2.2.2.1 205 = w2.2.2.2.1 205
      rw [B4]
    · show w3.2.2.2.2.2.2.2.2.2.2 2 = w2.2.2.2.2.2.2.2.2.2.2 2
      rw [B7]
    · show w3.2.2.2.2.2.2.2.2.2.2 3 = w2.2.2.2.2.2.2.2.2.2.2 3
      rw [B7]
  have hc : ∀ y, ¬ y = T → CNa v w3 q y := fun y hy => ⟨fun k _ => (wm _ k).trans (n10 _ k (by omega)), fun k => (wl _ k).trans (n11 _ k (by omega))⟩
  have F2 : FX [61, 62, 65, 66, 67, 68, 74, 78, 80, 81] [49, 50, 51, 54, 59, 60, 75, 76] [52, 53, 57, 58] u x2 := by
    refine FX.tr (FX.mo (TLr_fx hX) ?_ ?_ ?_) (FX.mo (FX_r hr2.1) ?_ ?_ ?_) <;> decide
  have FA : FX [70, 74] [43, 44, 45, 48] [46, 47] x2 y := ⟨q1, q4, q5⟩
  have F1 : FX [61, 62, 65, 66, 67, 68, 70, 74, 78, 80, 81] [43, 44, 45, 48, 49, 50, 51, 54, 59, 60, 75, 76] [46, 47, 52, 53, 57, 58] u y := by
    refine FX.tr (FX.mo F2 ?_ ?_ ?_) (FX.mo FA ?_ ?_ ?_) <;> decide
  have nx : (x2.1 56).toNatClampNeg = s := by rw [F2.1 56 (by decide)]; exact n_of t6
  rw [nx] at q10
  have X48 : x2.2.2.1 48 = u.2.2.1 48 := F2.2.1 48 (by decide)
  have y48 : (y.2.2.1 48 s).toInt = (k0 + 1 : Nat) := by
    rw [q10, X48]
    unfold upd
    rw [if_pos rfl, tI_add (by omega) (by omega), e1, hk0]
    omega
  have g5' : ∀ k, k ∈ [59, 60] → y.2.2.1 k = x.2.2.1 k := by
    intro k hk
    have b1 := q4 k (fun y => by simp only [List.mem_cons, List.not_mem_nil, or_false] at hk y; omega)
    have b3 := hr2.1.2.1 k (fun y => by simp only [List.mem_cons, List.not_mem_nil, or_false] at hk y; omega)
    exact b1.trans b3
  have g6' : ∀ k, k ∈ [57, 58] → y.2.2.2 k = x.2.2.2 k := by
    intro k hk
    have b1 := q5 k (fun y => by simp only [List.mem_cons, List.not_mem_nil, or_false] at hk y; omega)
    have b3 := hr2.1.2.2 k (fun y => by simp only [List.mem_cons, List.not_mem_nil, or_false] at hk y; omega)
    exact b1.trans b3
  have g7' : ∀ k, k ∈ [61, 62] → y.1 k = x.1 k := by
    intro k hk
    have b1 := q1 k (fun y => by simp only [List.mem_cons, List.not_mem_nil, or_false] at hk y; omega)
    have b3 := hr2.1.1 k (fun y => by simp only [List.mem_cons, List.not_mem_nil, or_false] at hk y; omega)
    exact b1.trans b3
  have rg : RGx u y G := by
    intro k hk
    obtain ⟨b1, b2, b3, b4⟩ := l5 k hk
    rw [g6' 57 (by decide), g6' 58 (by decide), g5' 59 (by decide), g5' 60 (by decide)]
    exact ⟨b1, b2, b3, b4⟩
  have rv : RVx u y s := RVx_f F1 (by decide) (by decide)
  have rk : RKx u y s := by
    refine ⟨by omega, fun k hk => ?_⟩
    have ne : ¬ 8 * s + k = 8 * s + k0 := by omega
    refine ⟨fun d hd => ?_, fun d hd => ?_⟩
    · simp only [List.mem_cons, List.not_mem_nil, or_false] at hd
      rcases hd with z | z
      · rw [z, q6]; unfold upd; rw [if_neg ne, F2.2.1 43 (by decide)]
      · rw [z, q7]; unfold upd; rw [if_neg ne, F2.2.1 44 (by decide)]
    · simp only [List.mem_cons, List.not_mem_nil, or_false] at hd
      rcases hd with z | z
      · rw [z, q8]; unfold vp_updL; rw [if_neg ne, F2.2.2 46 (by decide)]
      · rw [z, q9]; unfold vp_updL; rw [if_neg ne, F2.2.2 47 (by decide)]
  have n2' : mI w3 (169 * q + T) 2 = 2 := by rw [wm]; exact g4
  have n4' : (mI w3 (169 * q + T) 4).toInt = (k0 : Int) := by rw [wm, n14]; exact p1
  have n1' : mI w3 (169 * q + T) 1 = cA v 206 nm := by rw [wm]; exact g3
  have nL : mL w3 (169 * q + T) 0 = cB v 205 nm := by rw [wl]; exact g1
  have hgl : gl w3 (169 * q + T) := by
    unfold gl
    rw [n2']
    decide
  have nos : ∀ a : Int32, a = 0 ∨ a = 1 ∨ a = 3 ∨ a = 4 → ¬ mI w3 (169 * q + T) 2 = a := by
    intro a ha z
    rw [n2'] at z
    rcases ha with ha | ha | ha | ha <;> (rw [ha] at z; exact absurd z (by decide))
  have no34 : ¬ (mI w3 (169 * q + T) 2 = 3 ∨ mI w3 (169 * q + T) 2 = 4) := by
    rintro (z | z)
    · exact nos 3 (by decide) z
    · exact nos 4 (by decide) z
  have tr : TR w3 y q s (T + 1) (G + 1) := by
    refine TR_new hTR hT hc (by rw [pI3 q 12 (by decide)]; exact n5) ?_ ?_ (F1.1 56 (by decide)) (wR 2) (wR 3) ?_ (by rw [n2']; decide) hgl (by omega) ⟨?_, ?_, ?_⟩ ?_ ?_ rg rv (RSx_f F1 (by decide) (by decide) (by omega)) (RBx_f F1 (by decide)) (RIx_f F1 (by decide) (by decide)) (fun z => absurd z (nos 0 (by decide))) (fun z => absurd z no34) (fun z => absurd z (nos 1 (by decide)))
    · rw [g7' 62 (by decide), l11, pI3 q 12 (by decide), n6, t3]
    · rw [g7' 61 (by decide)]; exact l10
    · rw [wm, n13]; exact t1
    · unfold rN
      rw [nL, n1', g6' 57 (by decide), g6' 58 (by decide), l8, l9]
      exact hnr
    · rw [g5' 59 (by decide), l6, n2']
    · rw [g5' 60 (by decide), l7, wm, n14, c2]
    · rw [nL, n1']; exact f1
    · rw [nL, n1']; exact f2
  have px : PAx v w3 q 2 k0 T := ⟨p1, by rw [wA 9 (by decide)]; exact p2, fun p hp hn => by rw [wA 9 (by decide)]; exact p3 p hp hn, by rw [wA (4 + 2) (by decide)]; exact p4, fun p k hp hn => by rw [wA (4 + p) (fun z => by simp only [List.mem_cons, List.not_mem_nil, or_false] at z; omega)]; exact p5 p k hp hn⟩
  have cnt : CTN w3 y q s (T + 1) := by
    unfold CTN
    rw [F1.2.1 19 (by decide), F1.2.1 42 (by decide), F1.2.1 36 (by decide), F1.2.1 37 (by decide), F1.2.1 27 (by decide)]
    refine ⟨?_, ?_, tI_eq.mpr (by rw [px.2.1, y48]), ?_, ?_, ⟨c5.1, by omega⟩, c6, ⟨by omega, by omega⟩, c8, c9, c10.1, by omega⟩
    · rw [px.2.2.1 0 (by decide) (by decide)]; exact c0
    · rw [px.2.2.1 1 (by decide) (by decide)]; exact c1
    · rw [px.2.2.1 3 (by decide) (by decide)]; exact c3
    · rw [px.2.2.1 4 (by decide) (by decide)]; exact c4
  have num : NUM w3 y := by
    unfold NUM
    rw [wC 228 (by decide), wI 12 (by decide), F1.2.1 64 (by decide), F1.1 63 (by decide)]
    exact s3
  have tk : TRk w3 y q s := by
    have ti : ∀ p k, p ≠ 8 * q + k0 → tI w3 p k = tI v p k := fun p k hp => by
      rw [B8 p k hp]
      show w2.2.2.2.2.2.2.2.1 p k = v.2.2.2.2.2.2.2.1 p k
      rw [hw.2.2.2.2.2, n8]
    intro k hk
    by_cases z : k = k0
    · rw [z]
      refine ⟨?_, ?_, by rw [B9]; exact hev.1, by rw [B9]; exact hev.2.1, by rw [B10]; exact hev.2.2.1, by rw [B9, B10]; exact hev.2.2.2, B11⟩
      · rw [B9, q6]; unfold upd; rw [if_pos rfl]
      · rw [B10, q7]; unfold upd; rw [if_pos rfl]
    · have hk' : (k : Int) < (u.2.2.1 48 s).toInt := by omega
      obtain ⟨b1, b2, b3, b4, b5, b6, b7⟩ := s6 k hk'
      obtain ⟨r1, -⟩ := rk.2 k hk'
      have ne : 8 * q + k ≠ 8 * q + k0 := by omega
      unfold TRk1
      rw [ti _ 0 ne, ti _ 1 ne, r1 43 (by decide), r1 44 (by decide)]
      exact ⟨b1, b2, b3, b4, b5, b6, fun j hj => (ti _ j ne).trans (b7 j hj)⟩
  have tr2 : TR2 w3 y q s (T + 1) := by
    refine TR2_new hTR hT2 hc px (by omega) (by rw [n2']; rfl) n4' rv rk (RNx_f F1 (by decide) (by decide)) cnt num (by rw [wI 12 (by decide)]; exact Int.le_refl _) (fun z => absurd z (nos 0 (by decide))) ⟨fun _ => ⟨by omega, ?_⟩, fun z => absurd z (nos 3 (by decide)), fun z => absurd z (nos 4 (by decide))⟩ tk (fun z => absurd z no34)
    unfold rN
    rw [n_of n4', nL, n1', q8, q9]
    unfold vp_updL
    rw [if_pos rfl, if_pos rfl, F2.2.2 6 (by decide), F2.2.2 7 (by decide)]
    exact hnr
  obtain ⟨-, d1, d2, d3⟩ := hc2
  have i5 : ∀ k, cI w3 k = cI w2 k := fun k => by
    show w3.1 k = w2.1 k
    rw [B1]
  obtain ⟨-, r1, r2, r3, r4, r5⟩ := hr2
  refine ⟨⟨hV.tr (tkC_tr tkw tk3) ⟨F1.2.1 2 (by decide), F1.2.1 3 (by decide), F1.2.1 5 (by decide), F1.2.2 4 (by decide), F1.2.2 6 (by decide), F1.2.2 7 (by decide), F1.1 69 (by decide)⟩, ⟨cfr_rf, by rw [i5]; exact d1, by rw [i5]; exact d2, rfl⟩, ⟨rfr_rf, ?_, ?_, ?_, ?_, rfl⟩, ?_, tr, tr2⟩, ⟨?_, ?_⟩, tkC_ty (tkC_tr tkw tk3)⟩
  · rw [q1 67 (by decide)]; exact r1
  · rw [q1 65 (by decide)]; exact r2
  · rw [q1 66 (by decide)]; exact r3
  · rw [q3]; rfl
  · rw [i5]
    have : (eC w2).1 = e.1 := by rw [d3]
    rw [h16] at this
    exact this
  · rw [pI3 q 15 (by decide), n4 q 15 (by decide)]; exact hO.1
  · rw [q2]; decide
theorem IT_70 (hI : IT v u q s n i o T G) (hO : (pI v q 15).toInt < 0) : IT v (sI u 70 0) q s n i o T G ∧ OWN0 v (sI u 70 0) q := by
  obtain ⟨hV, h, h', h16, hTR, hT2⟩ := hI
  have hn : ∀ y, CNa v v q y := fun y => ⟨fun k hk => rfl, fun _ => rfl⟩
  have F : FX [70] [] [] u (sI u 70 0) := FX.rf.si (by decide)
  refine ⟨⟨hV.tr tkC_rf ⟨rfl, rfl, rfl, rfl, rfl, rfl, rfl⟩, h, ⟨rfr_rf, h'.2.1, h'.2.2.1, h'.2.2.2.1, h'.2.2.2.2.1, rfl⟩, h16, TR_cong hTR hn rfl rfl rfl F (by decide) (by decide) (by decide), TR2_cong hTR hT2 hn rfl rfl (fun _ _ => rfl) rfl F (by decide) (by decide) (by decide)⟩, hO, ?_⟩
  show (0 : Int32) ≤ 1
  decide
/-- the body of a task -/
theorem j_tbody (hI : IT v u q s n i 0 T G) (hO : OWN0 v u q) (hD : dBo (tyF v) 25 i (.inr j)) (hi : i ≤ n) : jx (B_X3_cyclic_94 N v) (B_tasked_213 N u) (IQ (tyF v) q s n j 0) := by
  obtain ⟨hV, h, h', h16, hTR, hT2⟩ := id hI
  have hE : EV2 v u n := EV_of hV.1 hV.2.1 hV.2.2.1 hV.2.2.2.1 hV.2.2.2.2.1 hTR (Or.inl hO)
  have hW : OWj v u := OW_of hTR (Or.inl hO)
  obtain ⟨k1, p1, md, p2⟩ := oS_r (show oS (oP (tyF v) (0 < 24) 123) (dSl (tyF v) (dSt (tyF v) 24)) i (.inr j) from hD)
  obtain ⟨t1, -, rfl⟩ := oP_r p1
  have hil := hV.lt hi (by rw [t1]; exact nEnd (by decide) (by decide) (by decide))
  have hne : ∀ i j, dSt (tyF v) 24 i (.inr j) → ¬ isEnd (tyF v i) := fun i j q => st_ne q
  have t9 := hTR.2.2.2.2.2.2.2.2.2.1
  unfold B_X3_cyclic_94 B_tasked_213
  refine k2_next hV.1 h hil (fun w1 g1 => pq_ok (fun _ => ?_))
  have gb : ∀ {γ : Type} {k' : Int32 → RSt → Option (γ × RSt)}, bn (G_body N u) k' = bn (F_begins N 225 u) (fun _ u_7 => bn (LP_body_7 N (FS_ N 99) N u_7) k') := by
    intro γ k'
    show bn (F_body N (FS_ N 99) u) k' = _
    unfold F_body B_body_0
    rw [bn_as]
  rw [gb]
  refine jx_r (y_begins hV.2.1 (t := 123) (by decide +kernel) h' hil t1 (by omega) (fun x1 r1 => jx_l ?_))
  have st : jx (G_X3_statements N w1) (LP_body_7 N (FS_ N 99) N x1) (SJq v u n j 0 0) := by
    show jx (F_X3_statements N (FMS_ N 149) w1) _ _
    unfold F_X3_statements B_X3_statements_0
    exact j_stats hE (by omega) ((j_SB hE hW 24 1 (by omega)).1 0 (by omega)) (pg_SB (ty := tyF v) 24).1 hne md (i + 1) j w1 x1 _ _ N N 0 p2 hil (Nat.zero_le _) g1 r1 h16
  refine jx_bt st ?_ (fun _ _ => by repeat' (first | exact KP_some kp_rf | with_reducible refine KP_bn ?_ (fun _ _ => ?_) | with_reducible refine KP_if ?_ ?_ | with_reducible refine KP_rd (fun _ => ?_) | with_reducible refine KP_zr ?_ | (with_reducible refine KP_pu2 ?_ ?_; first | exact ks_sI (by decide) kp_rf | exact ks_sL kp_rf | exact ks_sA (by decide) kp_rf | exact ks_sB (by decide) kp_rf) | (with_reducible refine KP_wr2 ?_ ?_; first | exact ks_sA (by decide) kp_rf | exact ks_sB (by decide) kp_rf) | with_reducible exact h_ro _ _ _ _ | with_reducible exact sk_F_is | with_reducible exact sk_F_take | with_reducible exact sk_F_emit | with_reducible exact sk_F_wrong | with_reducible exact sk_F_cost | with_reducible exact sk_F_stuck | with_reducible exact sk_F_ends | with_reducible exact sk_F_begins | with_reducible exact sk_F_opens | with_reducible exact sk_F_has | with_reducible exact sk_F_isNumber | with_reducible exact sk_F_isNext | with_reducible exact sk_F_push | with_reducible exact sk_F_lead | with_reducible exact sk_F_here | with_reducible exact sk_F_kind | with_reducible exact sk_F_isKind | with_reducible exact sk_F_own | with_reducible exact sk_F_constant | with_reducible exact sk_F_bounded | with_reducible exact sk_F_joined | with_reducible exact sk_F_strength | with_reducible exact sk_F_leadAll | with_reducible exact sk_F_loop | with_reducible exact sk_F_label | with_reducible exact sk_F_leaves | with_reducible exact sk_F_telling | with_reducible exact sk_F_local | with_reducible exact sk_F_addSlot | with_reducible exact sk_F_addVariable | with_reducible exact sk_F_isTooWide | with_reducible exact sk_F_named | with_reducible exact sk_F_slotOf | with_reducible exact sk_F_bad | with_reducible exact sk_G_expression | with_reducible exact sk_G_spot | with_reducible exact sk_G_body | with_reducible exact sk_G_stat | with_reducible exact sk_B_tasked_213 | with_reducible exact sk_B_tasked_125 | with_reducible exact sk_B_tasked_53 | with_reducible exact sk_B_tasked_0 | with_reducible exact sk_F_tasked))
  rintro pl w2 r2 x2 ⟨e2, c2, g2, r2, h02, hjn⟩
  refine k2_step g2 (fun _ w3 g3 => pq_some ?_)
  refine y_emit r2 (fun _ x3 r3 => pp_pu (pp_some (Or.inr ⟨0, rfl, ?_⟩)))
  have hI3 := IT_mv hI g3 h02 r3
  obtain ⟨y1, y2⟩ := IT_70 hI3 (by rw [g3.pi q (by decide)]; exact hO.1)
  exact ⟨⟨T, G, y1, y2, tkC_ty (cfT_tk (M := []) (cfT_c g3.1))⟩, hjn⟩
end Tk
