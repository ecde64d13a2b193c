/-! The second pass: Items. The tables stay as they are while tokens are passed over and code is made. -/
section Mv
variable {v w : CSt} {u x : RSt} {q s T G n i j o o2 : Nat} {a b c : List Nat} {e : E5} {c5 : R5}
theorem TRg_c (h : TRg v u q T G) (hc : CNx v w q 1000) (hT : T ≤ 160) (hr : RGx u x G) : TRg w x q T G := by
  obtain ⟨g1, g2, g3, g4⟩ := h
  refine ⟨fun y hy hgy => ?_, fun y hy1 hy2 => ?_, fun y y' hy hy' hgy hgy' e1 e2 => ?_, fun y hy hgy k hk => ?_⟩
  · have e : ¬ y = 1000 := by omega
    obtain ⟨z, z1, z2, z3⟩ := g1 y hy ((gl_c hc e).mp hgy)
    exact ⟨z, z1, z2, (gE_x hc e hr z2).mpr z3⟩
  · obtain ⟨z, z1, z2, z3⟩ := g2 y hy1 hy2
    have ez : ¬ z = 1000 := by omega
    exact ⟨z, z1, (gl_c hc ez).mpr z2, (gE_x hc ez hr hy2).mpr z3⟩
  · have e : ¬ y = 1000 := by omega
    have e' : ¬ y' = 1000 := by omega
    rw [(hc y e).2 0, (hc y' e').2 0] at e1
    rw [(hc y e).1 1 (by decide), (hc y' e').1 1 (by decide)] at e2
    exact g3 y y' hy hy' ((gl_c hc e).mp hgy) ((gl_c hc e').mp hgy') e1 e2
  · have e : ¬ y = 1000 := by omega
    have ek : ¬ 160 + k = 1000 := by omega
    rw [(hc (160 + k) ek).2 0, (hc y e).2 0, (hc y e).1 1 (by decide)]
    exact g4 y hy ((gl_c hc e).mp hgy) k hk
theorem TR_cong (h : TR v u q s T G) (hn : ∀ y, CNa v w q y) (h12 : pI w q 12 = pI v q 12) (hR2 : cR w 2 = cR v 2) (hR3 : cR w 3 = cR v 3) (hf : FX a b c u x) (ha : ∀ k, k ∈ [56, 61, 62] → k ∉ a) (hb : ∀ k, k ∈ [10, 11, 12, 13, 14, 15, 19, 20, 21, 22, 23, 27, 28, 29, 30, 31, 33, 36, 37, 38, 39, 42, 59, 60] → k ∉ b) (hc : ∀ k, k ∈ [16, 17, 18, 24, 25, 26, 40, 41, 57, 58] → k ∉ c) : TR w x q s T G := by
  obtain ⟨t1, t2, t3, t4, t5, t5', t6, t7, t8, t9, t10, t11, t12, t13, t14, t15, t16, t17⟩ := h
  have hx : CNx v w q 1000 := CNx_a (fun y _ => hn y)
  have rg : RGx u x G := RGx_f hf (fun k hk => hb k (by simp only [List.mem_cons, List.not_mem_nil, or_false] at hk ⊢; omega)) (fun k hk => hc k (by simp only [List.mem_cons, List.not_mem_nil, or_false] at hk ⊢; omega))
  have rv : RVx u x s := RVx_f hf (fun k hk => hb k (by simp only [List.mem_cons, List.not_mem_nil, or_false] at hk ⊢; omega)) (fun k hk => hc k (by simp only [List.mem_cons, List.not_mem_nil, or_false] at hk ⊢; omega))
  refine ⟨by rw [h12]; exact t1, t2, by rw [hf.1 62 (ha 62 (by decide)), h12]; exact t3, by rw [hf.1 61 (ha 61 (by decide))]; exact t4, t5, t5', by rw [hf.1 56 (ha 56 (by decide))]; exact t6, t7, t8, by rw [hR2]; exact t9, by rw [hR3]; exact t10, fun y hy => ?_, fun y hy hg => ?_, TRg_c t13 hx t2 rg, TR8_new t14 (fun y _ => hn y) rg t5', fun y hy hs => ?_, fun r hr hs => ?_, fun y hy hs => ?_⟩
  · rw [(hn y).1 3 (by decide), (hn y).1 2 (by decide)]
    exact t11 y hy
  · rw [(hn y).1 4 (by decide)]
    exact t12 y hy ((gl_c hx (by omega)).mp hg)
  · rw [(hn y).1 2 (by decide)] at hs
    exact TRv1_c (hn y) rv (t15 y hy hs)
  · have n0 := (hn r).1
    rw [n0 2 (by decide)] at hs
    obtain ⟨K, F, P, hR, b3, b4⟩ := t16 r hr hs
    have a9 := hR.2.2.2.2.2.2.2.2.1
    have rs : RSx u x s := RSx_f hf (fun k hk => hb k (by simp only [List.mem_cons, List.not_mem_nil, or_false] at hk ⊢; omega)) (fun k hk => hc k (by simp only [List.mem_cons, List.not_mem_nil, or_false] at hk ⊢; omega)) a9
    refine ⟨K, F, P, RRr_tr hR (fun y _ _ => hn y) (fun d hd => by rw [hf.2.1 d (hb d (by simp only [List.mem_cons, List.not_mem_nil, or_false] at hd ⊢; omega))]) rs (Nat.le_refl _), fun z => ?_, fun z => ?_⟩
    · rw [n0 2 (by decide)] at z
      rw [n0 4 (by decide), hf.2.1 36 (hb 36 (by decide))]
      exact b3 z
    · rw [n0 2 (by decide)] at z
      rw [n0 4 (by decide), hf.2.1 37 (hb 37 (by decide))]
      exact b4 z
  · rw [(hn y).1 2 (by decide)] at hs
    obtain ⟨k, r, k1, k2, k3, k4, k5, k6, k7, k8, k9⟩ := t17 y hy hs
    refine ⟨k, r, ?_, k2, k3, ?_, ?_, ?_, ?_, ?_, ?_⟩
    · rw [(hn y).1 4 (by decide)]; exact k1
    · rw [(hn y).1 14 (by decide)]; exact k4
    · rw [(hn r).1 2 (by decide)]; exact k5
    · have eb : bk w (169 * q + r) s = bk v (169 * q + r) s := by
        unfold bk
        rw [(hn r).1 2 (by decide), (hn r).1 4 (by decide)]
      rw [eb, hf.2.1 38 (hb 38 (by decide))]
      exact k6
    · rw [hf.2.1 39 (hb 39 (by decide)), (hn y).1 9 (by decide)]; exact k7
    · unfold rN at k8 ⊢
      rw [hf.2.2 40 (hc 40 (by decide)), hf.2.2 41 (hc 41 (by decide)), (hn y).2 0, (hn y).1 1 (by decide)]
      exact k8
    · rw [hf.2.1 42 (hb 42 (by decide))]; exact k9
theorem TR2_cong (h : TR v u q s T G) (h2 : TR2 v u q s T) (hn : ∀ y, CNa v w q y) (hA : cA w 228 = cA v 228) (hI : cI w 12 = cI v 12) (hP : ∀ k, k ∈ [4, 5, 6, 7, 8, 9] → pA w q k = pA v q k) (ht : w.2.2.2.2.2.2.2.1 = v.2.2.2.2.2.2.2.1) (hf : FX a b c u x) (ha : ∀ k, k ∈ [63] → k ∉ a) (hb : ∀ k, k ∈ [10, 11, 12, 13, 14, 15, 19, 27, 36, 37, 42, 43, 44, 48, 64] → k ∉ b) (hc : ∀ k, k ∈ [16, 17, 18, 34, 35, 46, 47] → k ∉ c) : TR2 w x q s T := by
  obtain ⟨t1, t2, t3, t4, t5, t5', t6, t7, t8, t9, t10, t11, t12, t13, t14, t15, t16, t17⟩ := h
  obtain ⟨⟨s1, s1'⟩, s2, s3, s4, s5, s6, s7⟩ := h2
  have hx : CNx v w q 1000 := CNx_a (fun y _ => hn y)
  have rv : RVx u x s := RVx_f hf (fun k hk => hb k (by simp only [List.mem_cons, List.not_mem_nil, or_false] at hk ⊢; omega)) (fun k hk => hc k (by simp only [List.mem_cons, List.not_mem_nil, or_false] at hk ⊢; omega))
  have rk : RKx u x s := RKx_f hf (fun k hk => hb k (by simp only [List.mem_cons, List.not_mem_nil, or_false] at hk ⊢; omega)) (fun k hk => hc k (by simp only [List.mem_cons, List.not_mem_nil, or_false] at hk ⊢; omega))
  have rn : RNx u x s := RNx_f hf (fun k hk => hb k (by simp only [List.mem_cons, List.not_mem_nil, or_false] at hk ⊢; omega)) (fun k hk => hc k (by simp only [List.mem_cons, List.not_mem_nil, or_false] at hk ⊢; omega))
  have e4 : (4 : Int32).toInt = 4 := by decide
  refine ⟨⟨fun y hy hg => ?_, fun p hp k hk => ?_⟩, ?_, ?_, fun y hy hs => ?_, fun y hy => TRf1_c (by omega) hx (t12 y hy) rk rn (s5 y hy), TRk_c s6 ht rk (by rw [hf.2.1 48 (hb 48 (by decide))]), fun r hr hs K hK => ?_⟩
  · have hgv := (gl_c hx (by omega)).mp hg
    obtain ⟨x1, x2, x3⟩ := t11 y hy
    have hp : (mI v (169 * q + y) 2).toNatClampNeg ≤ 4 := by
      have : ¬ (4 : Int32).toInt < (mI v (169 * q + y) 2).toInt := fun z => hgv (Int32.lt_iff_toInt_lt.mpr z)
      show (mI v (169 * q + y) 2).toInt.toNat ≤ 4
      omega
    rw [(hn y).1 2 (by decide), (hn y).1 4 (by decide), hP 9 (by decide), hP _ (show 4 + (mI v (169 * q + y) 2).toNatClampNeg ∈ [4, 5, 6, 7, 8, 9] by simp only [List.mem_cons, List.not_mem_nil, or_false]; omega)]
    exact s1 y hy hgv
  · rw [hP 9 (by decide)] at hk
    obtain ⟨y, y1, y2, y3, y4⟩ := s1' p hp k hk
    refine ⟨y, y1, ?_, ?_, ?_⟩
    · rw [hP _ (show 4 + p ∈ [4, 5, 6, 7, 8, 9] by simp only [List.mem_cons, List.not_mem_nil, or_false]; omega)]; exact y2
    · rw [(hn y).1 2 (by decide)]; exact y3
    · rw [(hn y).1 4 (by decide)]; exact y4
  · unfold CTN at s2 ⊢
    rw [hP 9 (by decide), hf.2.1 19 (hb 19 (by decide)), hf.2.1 42 (hb 42 (by decide)), hf.2.1 48 (hb 48 (by decide)), hf.2.1 36 (hb 36 (by decide)), hf.2.1 37 (hb 37 (by decide)), hf.2.1 27 (hb 27 (by decide))]
    exact s2
  · unfold NUM at s3 ⊢
    rw [hA, hI, hf.2.1 64 (hb 64 (by decide)), hf.1 63 (ha 63 (by decide))]
    exact s3
  · rw [(hn y).1 2 (by decide)] at hs
    exact TRp1_c (hn y) rv (t15 y hy hs) (by rw [hI]; exact Int.le_refl _) (s4 y hy hs)
  · rw [(hn r).1 2 (by decide)] at hs
    rw [(hn r).1 12 (by decide)] at hK
    exact OFF_tr (s7 r hr hs K hK) (fun y _ _ => hn y)
theorem CNa_c (h : cfr v w) (y : Nat) : CNa v w q y := ⟨fun k _ => cfr_m h _ k, fun k => cfr_l h _ k⟩
/-- the class and the reference go on, the tables stay -/
theorem IT_mv (hI : IT v u q s n i o T G) (hc : CE v w j 0 e) (h0 : e.1 = 0) (hr : RE u x j o2 0 c5) : IT w x q s n j o2 T G := by
  obtain ⟨hV, h, h', h16, hTR, hT2⟩ := hI
  have cr : ∀ k, cR w k = cR v k := fun k => hc.rf k
  have F := FX_r hr.1
  have e16 : cI w 16 = e.1 := by rw [← hc.2.2.2]; rfl
  refine ⟨hV.tr (cfT_tk (M := []) (cfT_c hc.1)) (rfr_tk hr.1), ⟨cfr_rf, hc.2.1, hc.2.2.1, rfl⟩, ⟨rfr_rf, hr.2.1, hr.2.2.1, hr.2.2.2.1, hr.2.2.2.2.1, rfl⟩, by rw [e16]; exact h0, ?_, ?_⟩
  · exact TR_cong hTR (CNa_c hc.1) (hc.pi q (by decide)) (cr 2) (cr 3) F (by decide) (by decide) (by decide)
  · refine TR2_cong hTR hT2 (CNa_c hc.1) (hc.row (by decide)) (hc.1.1 12 (by decide)) (fun k hk => hc.pa q (fun y => by simp only [List.mem_cons, List.not_mem_nil, or_false] at hk y; omega)) ?_ F (by decide) (by decide) (by decide)
    rw [hc.1.2.2.2.2.2]
theorem OWN0_mv (hO : OWN0 v u q) (hc : CE v w j 0 e) (hr : RE u x i o2 0 c5) : OWN0 w x q := OWN0_of hO (hc.pi q (by decide)) (hr.sc (by decide))
end Mv
