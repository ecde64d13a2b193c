/-! One instruction of each sort. -/
section ROps
variable {u w : RSt} {o a b : Int32}
theorem NX.st {H : Nat → Sh} {m p bs : Nat} {σ1 σ2 : List (Int × Int)} (hH : H p = (m, nr p, σ1)) (hN : H (p + 1) = (m, nr (p + 1), σ2)) (hr : nr (p + 1) + 8 = nr p) (hb : bs ≤ p) : NX w H bs (p + 1) p (p + 1) σ2 :=
  ⟨by omega, by omega, by rw [hH, hN], by rw [hN], Or.inl (by rw [hH, hN]; show nr (p + 1) < nr p; omega)⟩
theorem gn_cost (h : EMT u w o a b) (ht : toN u ≤ 1) (h0 : 0 ≤ (u.2.2.1 54 (toN u)).toInt) (h1 : (u.2.2.1 54 (toN u)).toInt < 8000) (ho : o = 1) : GEN u w 0 1 [] [] := by
  refine h.gen ht h0 h1 (by simp) (fun H σ hH hN hE hl hr hb => ?_)
  have nx := NX.st (w := w) hH hN hr hb
  have eo : opA w (posR u) = o := h.2.2.2.2.2.2.1
  have ea : aA w (posR u) = a := h.2.2.2.2.2.2.2.1
  have eb : bA w (posR u) = b := h.2.2.2.2.2.2.2.2.1
  have es : (H (posR u)).2.2 = [] ++ σ := by rw [hH]
  refine ⟨by rw [hH]; exact hl, ?_⟩
  rw [eo, ea, eb, es]
  exact Or.inl ⟨ho, by omega, by omega, by rw [hH, hN], by rw [hN]⟩
theorem gn_num (h : EMT u w o a b) (ht : toN u ≤ 1) (h0 : 0 ≤ (u.2.2.1 54 (toN u)).toInt) (h1 : (u.2.2.1 54 (toN u)).toInt < 8000) (ho : o = 2 ∨ o = 3) : GEN u w 0 1 [] [nT] := by
  refine h.gen ht h0 h1 (by simp) (fun H σ hH hN hE hl hr hb => ?_)
  have nx := NX.st (w := w) hH hN hr hb
  have eo : opA w (posR u) = o := h.2.2.2.2.2.2.1
  have ea : aA w (posR u) = a := h.2.2.2.2.2.2.2.1
  have eb : bA w (posR u) = b := h.2.2.2.2.2.2.2.2.1
  have es : (H (posR u)).2.2 = [] ++ σ := by rw [hH]
  refine ⟨by rw [hH]; exact hl, ?_⟩
  rw [eo, ea, eb, es]
  exact Or.inr (Or.inl ⟨ho, nx⟩)
theorem gn_place (h : EMT u w o a b) (ht : toN u ≤ 1) (h0 : 0 ≤ (u.2.2.1 54 (toN u)).toInt) (h1 : (u.2.2.1 54 (toN u)).toInt < 8000) (ho : o = 10) : GEN u w 0 1 [] [(a.toInt, a.toInt)] := by
  refine h.gen ht h0 h1 (by simp) (fun H σ hH hN hE hl hr hb => ?_)
  have nx := NX.st (w := w) hH hN hr hb
  have eo : opA w (posR u) = o := h.2.2.2.2.2.2.1
  have ea : aA w (posR u) = a := h.2.2.2.2.2.2.2.1
  have eb : bA w (posR u) = b := h.2.2.2.2.2.2.2.2.1
  have es : (H (posR u)).2.2 = [] ++ σ := by rw [hH]
  refine ⟨by rw [hH]; exact hl, ?_⟩
  rw [eo, ea, eb, es]
  exact Or.inr (Or.inr (Or.inl ⟨ho, nx⟩))
theorem gn_self (h : EMT u w o a b) (ht : toN u ≤ 1) (h0 : 0 ≤ (u.2.2.1 54 (toN u)).toInt) (h1 : (u.2.2.1 54 (toN u)).toInt < 8000) (ho : o = 11) (a0 : 0 ≤ a.toInt) (a9 : a.toInt ≤ 99) : GEN u w 0 1 [] [(a.toInt, 2000 + a.toInt)] := by
  refine h.gen ht h0 h1 (by simp) (fun H σ hH hN hE hl hr hb => ?_)
  have nx := NX.st (w := w) hH hN hr hb
  have eo : opA w (posR u) = o := h.2.2.2.2.2.2.1
  have ea : aA w (posR u) = a := h.2.2.2.2.2.2.2.1
  have eb : bA w (posR u) = b := h.2.2.2.2.2.2.2.2.1
  have es : (H (posR u)).2.2 = [] ++ σ := by rw [hH]
  refine ⟨by rw [hH]; exact hl, ?_⟩
  rw [eo, ea, eb, es]
  exact Or.inr (Or.inr (Or.inr (Or.inl ⟨ho, a0, a9, nx⟩)))
theorem gn_frame (h : EMT u w o a b) (ht : toN u ≤ 1) (h0 : 0 ≤ (u.2.2.1 54 (toN u)).toInt) (h1 : (u.2.2.1 54 (toN u)).toInt < 8000) (ho : o = 12) (a0 : 0 ≤ a.toInt) (a9 : a.toInt ≤ 99) : GEN u w 0 1 [] [(2100 + a.toInt, 2900 + a.toInt)] := by
  refine h.gen ht h0 h1 (by simp) (fun H σ hH hN hE hl hr hb => ?_)
  have nx := NX.st (w := w) hH hN hr hb
  have eo : opA w (posR u) = o := h.2.2.2.2.2.2.1
  have ea : aA w (posR u) = a := h.2.2.2.2.2.2.2.1
  have eb : bA w (posR u) = b := h.2.2.2.2.2.2.2.2.1
  have es : (H (posR u)).2.2 = [] ++ σ := by rw [hH]
  refine ⟨by rw [hH]; exact hl, ?_⟩
  rw [eo, ea, eb, es]
  exact Or.inr (Or.inr (Or.inr (Or.inr (Or.inl ⟨ho, a0, a9, nx⟩))))
theorem gn_shift {t s : Int × Int} (h : EMT u w o a b) (ht : toN u ≤ 1) (h0 : 0 ≤ (u.2.2.1 54 (toN u)).toInt) (h1 : (u.2.2.1 54 (toN u)).toInt < 8000) (ho : o = 14) (t0 : 0 ≤ t.1) (t1 : t.2 ≤ 100000) (s0 : 0 ≤ s.1) (s1 : s.2 ≤ 100000) : GEN u w 2 1 [t, s] [(t.1 + s.1, t.2 + s.2)] := by
  refine h.gen ht h0 h1 (by simp) (fun H σ hH hN hE hl hr hb => ?_)
  have nx := NX.st (w := w) hH hN hr hb
  have eo : opA w (posR u) = o := h.2.2.2.2.2.2.1
  have ea : aA w (posR u) = a := h.2.2.2.2.2.2.2.1
  have eb : bA w (posR u) = b := h.2.2.2.2.2.2.2.2.1
  have es : (H (posR u)).2.2 = [t, s] ++ σ := by rw [hH]
  refine ⟨by rw [hH]; exact hl, ?_⟩
  rw [eo, ea, eb, es]
  exact Or.inr (Or.inr (Or.inr (Or.inr (Or.inr (Or.inl ⟨ho, t, s, σ, rfl, t0, t1, s0, s1, nx⟩)))))
theorem gn_asks {t : Int × Int} (h : EMT u w o a b) (ht : toN u ≤ 1) (h0 : 0 ≤ (u.2.2.1 54 (toN u)).toInt) (h1 : (u.2.2.1 54 (toN u)).toInt < 8000) (ho : o = 15) (a0 : 0 ≤ a.toInt) : GEN u w 1 1 [t] [(0, a.toInt - 1)] := by
  refine h.gen ht h0 h1 (by simp) (fun H σ hH hN hE hl hr hb => ?_)
  have nx := NX.st (w := w) hH hN hr hb
  have eo : opA w (posR u) = o := h.2.2.2.2.2.2.1
  have ea : aA w (posR u) = a := h.2.2.2.2.2.2.2.1
  have eb : bA w (posR u) = b := h.2.2.2.2.2.2.2.2.1
  have es : (H (posR u)).2.2 = [t] ++ σ := by rw [hH]
  refine ⟨by rw [hH]; exact hl, ?_⟩
  rw [eo, ea, eb, es]
  exact Or.inr (Or.inr (Or.inr (Or.inr (Or.inr (Or.inr (Or.inl ⟨ho, a0, t, σ, rfl, nx⟩))))))
theorem gn_get {t : Int × Int} (h : EMT u w o a b) (ht : toN u ≤ 1) (h0 : 0 ≤ (u.2.2.1 54 (toN u)).toInt) (h1 : (u.2.2.1 54 (toN u)).toInt < 8000) (ho : o = 16) (hr' : RDb t a) : GEN u w 1 1 [t] [nT] := by
  refine h.gen ht h0 h1 (by simp) (fun H σ hH hN hE hl hr hb => ?_)
  have nx := NX.st (w := w) hH hN hr hb
  have eo : opA w (posR u) = o := h.2.2.2.2.2.2.1
  have ea : aA w (posR u) = a := h.2.2.2.2.2.2.2.1
  have eb : bA w (posR u) = b := h.2.2.2.2.2.2.2.2.1
  have es : (H (posR u)).2.2 = [t] ++ σ := by rw [hH]
  refine ⟨by rw [hH]; exact hl, ?_⟩
  rw [eo, ea, eb, es]
  exact Or.inr (Or.inr (Or.inr (Or.inr (Or.inr (Or.inr (Or.inr (Or.inl ⟨ho, t, σ, rfl, hr', nx⟩)))))))
theorem gn_peek {t : Int × Int} (h : EMT u w o a b) (ht : toN u ≤ 1) (h0 : 0 ≤ (u.2.2.1 54 (toN u)).toInt) (h1 : (u.2.2.1 54 (toN u)).toInt < 8000) (ho : o = 17) (hr' : RDb t a) : GEN u w 1 1 [t] [nT, t] := by
  refine h.gen ht h0 h1 (by simp) (fun H σ hH hN hE hl hr hb => ?_)
  have nx := NX.st (w := w) hH hN hr hb
  have eo : opA w (posR u) = o := h.2.2.2.2.2.2.1
  have ea : aA w (posR u) = a := h.2.2.2.2.2.2.2.1
  have eb : bA w (posR u) = b := h.2.2.2.2.2.2.2.2.1
  have es : (H (posR u)).2.2 = [t] ++ σ := by rw [hH]
  refine ⟨by rw [hH]; exact hl, ?_⟩
  rw [eo, ea, eb, es]
  exact Or.inr (Or.inr (Or.inr (Or.inr (Or.inr (Or.inr (Or.inr (Or.inr (Or.inl ⟨ho, t, σ, rfl, hr', nx⟩))))))))
theorem gn_put {s t : Int × Int} (h : EMT u w o a b) (ht : toN u ≤ 1) (h0 : 0 ≤ (u.2.2.1 54 (toN u)).toInt) (h1 : (u.2.2.1 54 (toN u)).toInt < 8000) (ho : o = 18) (hr' : WRb t a) : GEN u w 2 1 [s, t] [] := by
  refine h.gen ht h0 h1 (by simp) (fun H σ hH hN hE hl hr hb => ?_)
  have nx := NX.st (w := w) hH hN hr hb
  have eo : opA w (posR u) = o := h.2.2.2.2.2.2.1
  have ea : aA w (posR u) = a := h.2.2.2.2.2.2.2.1
  have eb : bA w (posR u) = b := h.2.2.2.2.2.2.2.2.1
  have es : (H (posR u)).2.2 = [s, t] ++ σ := by rw [hH]
  refine ⟨by rw [hH]; exact hl, ?_⟩
  rw [eo, ea, eb, es]
  exact Or.inr (Or.inr (Or.inr (Or.inr (Or.inr (Or.inr (Or.inr (Or.inr (Or.inr (Or.inl ⟨ho, s, t, σ, rfl, hr', nx⟩)))))))))
theorem gn_putbit {s t : Int × Int} (h : EMT u w o a b) (ht : toN u ≤ 1) (h0 : 0 ≤ (u.2.2.1 54 (toN u)).toInt) (h1 : (u.2.2.1 54 (toN u)).toInt < 8000) (ho : o = 19) (hr' : RDb t b) (hw' : WRb t b) : GEN u w 2 1 [s, t] [] := by
  refine h.gen ht h0 h1 (by simp) (fun H σ hH hN hE hl hr hb => ?_)
  have nx := NX.st (w := w) hH hN hr hb
  have eo : opA w (posR u) = o := h.2.2.2.2.2.2.1
  have ea : aA w (posR u) = a := h.2.2.2.2.2.2.2.1
  have eb : bA w (posR u) = b := h.2.2.2.2.2.2.2.2.1
  have es : (H (posR u)).2.2 = [s, t] ++ σ := by rw [hH]
  refine ⟨by rw [hH]; exact hl, ?_⟩
  rw [eo, ea, eb, es]
  exact Or.inr (Or.inr (Or.inr (Or.inr (Or.inr (Or.inr (Or.inr (Or.inr (Or.inr (Or.inr (Or.inl ⟨ho, s, t, σ, rfl, hr', hw', nx⟩))))))))))
theorem gn_un {t : Int × Int} (h : EMT u w o a b) (ht : toN u ≤ 1) (h0 : 0 ≤ (u.2.2.1 54 (toN u)).toInt) (h1 : (u.2.2.1 54 (toN u)).toInt < 8000) (ho : o = 20 ∨ o = 22 ∨ o = 23 ∨ o = 24 ∨ o = 25 ∨ o = 29) : GEN u w 1 1 [t] [nT] := by
  refine h.gen ht h0 h1 (by simp) (fun H σ hH hN hE hl hr hb => ?_)
  have nx := NX.st (w := w) hH hN hr hb
  have eo : opA w (posR u) = o := h.2.2.2.2.2.2.1
  have ea : aA w (posR u) = a := h.2.2.2.2.2.2.2.1
  have eb : bA w (posR u) = b := h.2.2.2.2.2.2.2.2.1
  have es : (H (posR u)).2.2 = [t] ++ σ := by rw [hH]
  refine ⟨by rw [hH]; exact hl, ?_⟩
  rw [eo, ea, eb, es]
  exact Or.inr (Or.inr (Or.inr (Or.inr (Or.inr (Or.inr (Or.inr (Or.inr (Or.inr (Or.inr (Or.inr (Or.inl ⟨ho, t, σ, rfl, nx⟩)))))))))))
theorem gn_two {s t : Int × Int} (h : EMT u w o a b) (ht : toN u ≤ 1) (h0 : 0 ≤ (u.2.2.1 54 (toN u)).toInt) (h1 : (u.2.2.1 54 (toN u)).toInt < 8000) (ho : o = 21) : GEN u w 2 1 [s, t] [nT] := by
  refine h.gen ht h0 h1 (by simp) (fun H σ hH hN hE hl hr hb => ?_)
  have nx := NX.st (w := w) hH hN hr hb
  have eo : opA w (posR u) = o := h.2.2.2.2.2.2.1
  have ea : aA w (posR u) = a := h.2.2.2.2.2.2.2.1
  have eb : bA w (posR u) = b := h.2.2.2.2.2.2.2.2.1
  have es : (H (posR u)).2.2 = [s, t] ++ σ := by rw [hH]
  refine ⟨by rw [hH]; exact hl, ?_⟩
  rw [eo, ea, eb, es]
  exact Or.inr (Or.inr (Or.inr (Or.inr (Or.inr (Or.inr (Or.inr (Or.inr (Or.inr (Or.inr (Or.inr (Or.inr (Or.inl ⟨ho, s, t, σ, rfl, nx⟩))))))))))))
theorem gn_spec2 {s t : Int × Int} (h : EMT u w o a b) (ht : toN u ≤ 1) (h0 : 0 ≤ (u.2.2.1 54 (toN u)).toInt) (h1 : (u.2.2.1 54 (toN u)).toInt < 8000) (ho : o = 30) (a1 : 1 ≤ a.toInt) (a4 : a.toInt ≤ 4) : GEN u w 2 1 [s, t] [nT] := by
  refine h.gen ht h0 h1 (by simp) (fun H σ hH hN hE hl hr hb => ?_)
  have nx := NX.st (w := w) hH hN hr hb
  have eo : opA w (posR u) = o := h.2.2.2.2.2.2.1
  have ea : aA w (posR u) = a := h.2.2.2.2.2.2.2.1
  have eb : bA w (posR u) = b := h.2.2.2.2.2.2.2.2.1
  have es : (H (posR u)).2.2 = [s, t] ++ σ := by rw [hH]
  refine ⟨by rw [hH]; exact hl, ?_⟩
  rw [eo, ea, eb, es]
  exact Or.inr (Or.inr (Or.inr (Or.inr (Or.inr (Or.inr (Or.inr (Or.inr (Or.inr (Or.inr (Or.inr (Or.inr (Or.inr (Or.inr (Or.inr (Or.inl ⟨ho, Or.inl ⟨a1, a4, s, t, σ, rfl, nx⟩⟩)))))))))))))))
theorem gn_spec1 {t : Int × Int} (h : EMT u w o a b) (ht : toN u ≤ 1) (h0 : 0 ≤ (u.2.2.1 54 (toN u)).toInt) (h1 : (u.2.2.1 54 (toN u)).toInt < 8000) (ho : o = 30) (a1 : ¬ (1 ≤ a.toInt ∧ a.toInt ≤ 4)) : GEN u w 1 1 [t] [nT] := by
  refine h.gen ht h0 h1 (by simp) (fun H σ hH hN hE hl hr hb => ?_)
  have nx := NX.st (w := w) hH hN hr hb
  have eo : opA w (posR u) = o := h.2.2.2.2.2.2.1
  have ea : aA w (posR u) = a := h.2.2.2.2.2.2.2.1
  have eb : bA w (posR u) = b := h.2.2.2.2.2.2.2.2.1
  have es : (H (posR u)).2.2 = [t] ++ σ := by rw [hH]
  refine ⟨by rw [hH]; exact hl, ?_⟩
  rw [eo, ea, eb, es]
  exact Or.inr (Or.inr (Or.inr (Or.inr (Or.inr (Or.inr (Or.inr (Or.inr (Or.inr (Or.inr (Or.inr (Or.inr (Or.inr (Or.inr (Or.inr (Or.inl ⟨ho, Or.inr ⟨a1, t, σ, rfl, nx⟩⟩)))))))))))))))
theorem gn_back (h : EMT u w o a b) (ht : toN u ≤ 1) (h0 : 0 ≤ (u.2.2.1 54 (toN u)).toInt) (h1 : (u.2.2.1 54 (toN u)).toInt < 8000) (ho : o = 33) (hm : md u = 0 ∨ md u = 1) : GEN u w 0 1 [] [] := by
  refine h.gen ht h0 h1 (by simp) (fun H σ hH hN hE hl hr hb => ?_)
  have nx := NX.st (w := w) hH hN hr hb
  have eo : opA w (posR u) = o := h.2.2.2.2.2.2.1
  have ea : aA w (posR u) = a := h.2.2.2.2.2.2.2.1
  have eb : bA w (posR u) = b := h.2.2.2.2.2.2.2.2.1
  have es : (H (posR u)).2.2 = [] ++ σ := by rw [hH]
  refine ⟨by rw [hH]; exact hl, ?_⟩
  rw [eo, ea, eb, es]
  exact Or.inr (Or.inr (Or.inr (Or.inr (Or.inr (Or.inr (Or.inr (Or.inr (Or.inr (Or.inr (Or.inr (Or.inr (Or.inr (Or.inr (Or.inr (Or.inr (Or.inr (Or.inr (Or.inl ⟨ho, by rw [hH]; exact hm, by rw [hH]; show 1 ≤ nr (posR u); omega⟩))))))))))))))))))
theorem gn_give {t : Int × Int} (h : EMT u w o a b) (ht : toN u ≤ 1) (h0 : 0 ≤ (u.2.2.1 54 (toN u)).toInt) (h1 : (u.2.2.1 54 (toN u)).toInt < 8000) (ho : o = 34) (hm : md u = 2) : GEN u w 1 1 [t] [] := by
  refine h.gen ht h0 h1 (by simp) (fun H σ hH hN hE hl hr hb => ?_)
  have nx := NX.st (w := w) hH hN hr hb
  have eo : opA w (posR u) = o := h.2.2.2.2.2.2.1
  have ea : aA w (posR u) = a := h.2.2.2.2.2.2.2.1
  have eb : bA w (posR u) = b := h.2.2.2.2.2.2.2.2.1
  have es : (H (posR u)).2.2 = [t] ++ σ := by rw [hH]
  refine ⟨by rw [hH]; exact hl, ?_⟩
  rw [eo, ea, eb, es]
  exact Or.inr (Or.inr (Or.inr (Or.inr (Or.inr (Or.inr (Or.inr (Or.inr (Or.inr (Or.inr (Or.inr (Or.inr (Or.inr (Or.inr (Or.inr (Or.inr (Or.inr (Or.inr (Or.inr (Or.inl ⟨ho, by rw [hH]; exact hm, by rw [hH]; show 1 ≤ nr (posR u); omega, t, σ, rfl⟩)))))))))))))))))))
theorem gn_stop {t : Int × Int} (h : EMT u w o a b) (ht : toN u ≤ 1) (h0 : 0 ≤ (u.2.2.1 54 (toN u)).toInt) (h1 : (u.2.2.1 54 (toN u)).toInt < 8000) (ho : o = 35) : GEN u w 1 1 [t] [] := by
  refine h.gen ht h0 h1 (by simp) (fun H σ hH hN hE hl hr hb => ?_)
  have nx := NX.st (w := w) hH hN hr hb
  have eo : opA w (posR u) = o := h.2.2.2.2.2.2.1
  have ea : aA w (posR u) = a := h.2.2.2.2.2.2.2.1
  have eb : bA w (posR u) = b := h.2.2.2.2.2.2.2.2.1
  have es : (H (posR u)).2.2 = [t] ++ σ := by rw [hH]
  refine ⟨by rw [hH]; exact hl, ?_⟩
  rw [eo, ea, eb, es]
  exact Or.inr (Or.inr (Or.inr (Or.inr (Or.inr (Or.inr (Or.inr (Or.inr (Or.inr (Or.inr (Or.inr (Or.inr (Or.inr (Or.inr (Or.inr (Or.inr (Or.inr (Or.inr (Or.inr (Or.inr (Or.inl ⟨ho, t, σ, rfl⟩))))))))))))))))))))
theorem gn_drop {t : Int × Int} (h : EMT u w o a b) (ht : toN u ≤ 1) (h0 : 0 ≤ (u.2.2.1 54 (toN u)).toInt) (h1 : (u.2.2.1 54 (toN u)).toInt < 8000) (ho : o = 37) : GEN u w 1 1 [t] [] := by
  refine h.gen ht h0 h1 (by simp) (fun H σ hH hN hE hl hr hb => ?_)
  have nx := NX.st (w := w) hH hN hr hb
  have eo : opA w (posR u) = o := h.2.2.2.2.2.2.1
  have ea : aA w (posR u) = a := h.2.2.2.2.2.2.2.1
  have eb : bA w (posR u) = b := h.2.2.2.2.2.2.2.2.1
  have es : (H (posR u)).2.2 = [t] ++ σ := by rw [hH]
  refine ⟨by rw [hH]; exact hl, ?_⟩
  rw [eo, ea, eb, es]
  exact Or.inr (Or.inr (Or.inr (Or.inr (Or.inr (Or.inr (Or.inr (Or.inr (Or.inr (Or.inr (Or.inr (Or.inr (Or.inr (Or.inr (Or.inr (Or.inr (Or.inr (Or.inr (Or.inr (Or.inr (Or.inr (Or.inr (Or.inl ⟨ho, t, σ, rfl, nx⟩))))))))))))))))))))))
theorem gn_call {as : List (Int × Int)} {f : Nat} (h : EMT u w o a b) (ht : toN u ≤ 1) (h0 : 0 ≤ (u.2.2.1 54 (toN u)).toInt) (h1 : (u.2.2.1 54 (toN u)).toInt < 8000) (ho : o = 31) (hf : (f : Int) < (u.2.2.1 37 (toN u)).toInt) (f16 : f < 16) (ha : a.toInt = 24 * toN u + 8 + f) (hn : (as.length : Int) = (u.2.2.1 30 a.toNatClampNeg).toInt) : GEN u w as.length 1 as [nT] := by
  refine h.gen ht h0 h1 (by simp) (fun H σ hH hN hE hl hr hb => ?_)
  have nx := NX.st (w := w) hH hN hr hb
  have eo : opA w (posR u) = o := h.2.2.2.2.2.2.1
  have ea : aA w (posR u) = a := h.2.2.2.2.2.2.2.1
  have eb : bA w (posR u) = b := h.2.2.2.2.2.2.2.2.1
  have es : (H (posR u)).2.2 = as ++ σ := by rw [hH]
  refine ⟨by rw [hH]; exact hl, ?_⟩
  rw [eo, ea, eb, es]
  have e30 : w.2.2.1 30 = u.2.2.1 30 := h.2.2.2.1 30 (by decide)
  have e37 : w.2.2.1 37 = u.2.2.1 37 := h.2.2.2.1 37 (by decide)
  have na : a.toNatClampNeg = 24 * toN u + 8 + f := by show a.toInt.toNat = _; omega
  have en := hE.1 f (by rw [e37, h.to]; exact hf)
  rw [h.to, h.pos h0, ← na] at en
  have eb2 : bsR w = bsR u := by unfold bsR; rw [h.to]
  have e8 : bsR u / 8000 = toN u := by unfold bsR; omega
  rw [eb2] at en
  have n3 : NX3 w H (bsR u) (posR u + 1) (posR u) (posR u + 1) (nT :: σ) := ⟨by omega, by omega, by rw [hH, hN], by rw [hN]; rfl, by rw [hH, hN]; show nr (posR u + 1) + 3 ≤ nr (posR u); omega⟩
  exact Or.inr (Or.inr (Or.inr (Or.inr (Or.inr (Or.inr (Or.inr (Or.inr (Or.inr (Or.inr (Or.inr (Or.inr (Or.inr (Or.inr (Or.inr (Or.inr (Or.inl ⟨ho, by omega, ⟨by omega, f, by rw [e8, e37]; exact hf, by rw [e8]; exact ha⟩, as, σ, rfl, by rw [e30]; exact hn, n3, en⟩))))))))))))))))
theorem gn_run {f : Nat} (h : EMT u w o a b) (ht : toN u ≤ 1) (h0 : 0 ≤ (u.2.2.1 54 (toN u)).toInt) (h1 : (u.2.2.1 54 (toN u)).toInt < 8000) (ho : o = 32) (hf : (f : Int) < (u.2.2.1 42 (toN u)).toInt) (f24 : f < 24) (ha : a.toInt = 24 * toN u + f) (hi0 : 0 ≤ (u.2.2.1 38 a.toNatClampNeg).toInt) (hi1 : (u.2.2.1 38 a.toNatClampNeg).toInt < 48) : GEN u w 0 1 [] [] := by
  refine h.gen ht h0 h1 (by simp) (fun H σ hH hN hE hl hr hb => ?_)
  have nx := NX.st (w := w) hH hN hr hb
  have eo : opA w (posR u) = o := h.2.2.2.2.2.2.1
  have ea : aA w (posR u) = a := h.2.2.2.2.2.2.2.1
  have eb : bA w (posR u) = b := h.2.2.2.2.2.2.2.2.1
  have es : (H (posR u)).2.2 = [] ++ σ := by rw [hH]
  refine ⟨by rw [hH]; exact hl, ?_⟩
  rw [eo, ea, eb, es]
  have e38 : w.2.2.1 38 = u.2.2.1 38 := h.2.2.2.1 38 (by decide)
  have e42 : w.2.2.1 42 = u.2.2.1 42 := h.2.2.2.1 42 (by decide)
  have na : a.toNatClampNeg = 24 * toN u + f := by show a.toInt.toNat = _; omega
  have en := hE.2 f (by rw [e42, h.to]; exact hf)
  rw [h.to, h.pos h0, ← na] at en
  have eb2 : bsR w = bsR u := by unfold bsR; rw [h.to]
  have e8 : bsR u / 8000 = toN u := by unfold bsR; omega
  rw [eb2] at en
  have n3 : NX3 w H (bsR u) (posR u + 1) (posR u) (posR u + 1) ([] ++ σ) := ⟨by omega, by omega, by rw [hH, hN], by rw [hN], by rw [hH, hN]; show nr (posR u + 1) + 3 ≤ nr (posR u); omega⟩
  exact Or.inr (Or.inr (Or.inr (Or.inr (Or.inr (Or.inr (Or.inr (Or.inr (Or.inr (Or.inr (Or.inr (Or.inr (Or.inr (Or.inr (Or.inr (Or.inr (Or.inr (Or.inl ⟨ho, by omega, ⟨by omega, f, by rw [e8, e42]; exact hf, by rw [e8]; exact ha⟩, n3, by rw [e38]; exact hi0, by rw [e38]; exact hi1, en⟩)))))))))))))))))
end ROps
