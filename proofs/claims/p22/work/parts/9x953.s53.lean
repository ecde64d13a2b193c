/-! The second pass: Items. A global variable: both tables grow. -/
section Vg
variable {v w w2 : CSt} {u x x2 x3 : RSt} {q s T G n i j o l m N k0 kn : Nat} {e : E5} {c : R5} {kd sz rw how num p : Int32} {fs H : Int64} {t so : Int32}
theorem NGc_tk {sn : Nat} (h : NGc v w q T so sn k0 H t) : tkC v w := by
  obtain ⟨n1, n2, n3, n4, n5, n6, n7, n8, n9, n10, n11, n12, n13, n14⟩ := h
  refine ⟨n1 4 (by decide), n2 203 (by decide), n2 204 (by decide), n2 206 (by decide), ?_, ?_, ?_, n1 7 (by decide)⟩
  · show w.2.2.2.1 205 = v.2.2.2.1 205
    rw [n3]
  · show w.2.2.2.2.2.2.2.2.2.2 2 = v.2.2.2.2.2.2.2.2.2.2 2
    rw [n9]
  · show w.2.2.2.2.2.2.2.2.2.2 3 = v.2.2.2.2.2.2.2.2.2.2 3
    rw [n9]
theorem NGl_tk (h : NGl v w q T so H t) : tkC v w := by
  obtain ⟨n1, n2, n3, n4, n5, n6, n7, n8, n9, n10, n11, n12, n13⟩ := h
  refine ⟨n1 4 (by decide), n2 203 (by decide), n2 204 (by decide), n2 206 (by decide), ?_, ?_, ?_, n1 7 (by decide)⟩
  · show w.2.2.2.1 205 = v.2.2.2.1 205
    rw [n3]
  · show w.2.2.2.2.2.2.2.2.2.2 2 = v.2.2.2.2.2.2.2.2.2.2 2
    rw [n9]
  · show w.2.2.2.2.2.2.2.2.2.2 3 = v.2.2.2.2.2.2.2.2.2.2 3
    rw [n9]
theorem TLr_fx {i' : Nat} (h : TLr u x G so num i') : FX [61, 62] [59, 60] [57, 58] u x := ⟨h.1, h.2.2.1, h.2.2.2.1⟩
theorem TLr_tk {i' : Nat} (h : TLr u x G so num i') : tkR u x := ⟨h.2.2.1 2 (by decide), h.2.2.1 3 (by decide), h.2.2.1 5 (by decide), h.2.2.2.1 4 (by decide), h.2.2.2.1 6 (by decide), h.2.2.2.1 7 (by decide), h.1 69 (by decide)⟩
theorem TLr_re {i' : Nat} (h : TLr u x G so num i') (h' : RE u u i o l c) : RE x x i o l c := by
  obtain ⟨a1, a2, -⟩ := h
  obtain ⟨-, b1, b2, b3, b4, b5⟩ := h'
  refine ⟨rfr_rf, ?_, ?_, ?_, ?_, ?_⟩
  · rw [a1 67 (by decide)]; exact b1
  · rw [a1 65 (by decide)]; exact b2
  · rw [a1 66 (by decide)]; exact b3
  · rw [a1 74 (by decide)]; exact b4
  · rw [← b5]
    unfold eR
    rw [a1 78 (by decide), a1 80 (by decide), a1 81 (by decide), a2]
theorem AVr_fx {nm : Nat} {at_ cell : Int32} (h : AVr u x nm kd so sz rw at_ cell fs) : FX [63] [10, 11, 12, 13, 14, 15, 19] [16, 17, 18] u x := ⟨fun k hk => h.1 k (fun z => hk (by rw [z]; decide)), h.2.1, h.2.2.1⟩
/-- what was put at the new place, and that the others stay -/
theorem AVr_at {nm : Nat} {at_ cell : Int32} (h : AVr u x nm kd so sz rw at_ cell fs) (hs : (u.1 56).toInt = (s : Int)) (hs2 : s < 2) (h19 : (u.2.2.1 19 s).toInt = (k0 : Int)) (hk : k0 ≤ 160) (hr : B01 rw) : RVx u x s ∧ (x.2.2.1 19 s).toInt = (k0 + 1 : Nat) ∧ x.2.2.1 19 s = u.2.2.1 19 s + 1 ∧ x.2.2.1 10 (160 * s + k0) = kd ∧ x.2.2.1 11 (160 * s + k0) = sz ∧ x.2.2.1 12 (160 * s + k0) = so ∧ x.2.2.1 13 (160 * s + k0) = rw ∧ x.2.2.1 14 (160 * s + k0) = at_ ∧ x.2.2.1 15 (160 * s + k0) = cell ∧ x.2.2.2 16 (160 * s + k0) = fs ∧ x.2.2.2 17 (160 * s + k0) = u.2.2.2 6 nm ∧ x.2.2.2 18 (160 * s + k0) = u.2.2.2 7 nm := by
  obtain ⟨a1, a2, a3, a4, a5, a6, a7, a8, a9, a10, a11, a12, a13, a14⟩ := h
  have e1 : (1 : Int32).toInt = 1 := by decide
  have ns := n_of hs
  have ni : (160 * u.1 56 + u.2.2.1 19 s).toNatClampNeg = 160 * s + k0 := n_of (m24 hs hs2 h19 (by omega)).2.1
  rw [ns] at a4 a5 a6 a7 a8 a9 a10 a11 a12 a13
  rw [ni] at a4 a5 a6 a7 a8 a9 a10 a11 a12
  rw [av_nar hr] at a7
  have x19 : x.2.2.1 19 s = u.2.2.1 19 s + 1 := by rw [a13]; unfold upd; rw [if_pos rfl]
  have x19i : (x.2.2.1 19 s).toInt = (k0 + 1 : Nat) := by
    rw [x19, tI_add (by omega) (by omega), e1, h19]
    omega
  refine ⟨⟨by omega, fun k hk => ?_⟩, x19i, x19, ?_, ?_, ?_, ?_, ?_, ?_, ?_, ?_, ?_⟩
  · have ne : ¬ 160 * s + k = 160 * s + k0 := by omega
    constructor
    · intro d hd
      simp only [List.mem_cons, List.not_mem_nil, or_false] at hd
      rcases hd with z | z | z | z | z | z
      · rw [z, a4]; unfold upd; rw [if_neg ne]
      · rw [z, a5]; unfold upd; rw [if_neg ne]
      · rw [z, a6]; unfold upd; rw [if_neg ne]
      · rw [z, a7]; unfold upd; rw [if_neg ne]
      · rw [z, a8]; unfold upd; rw [if_neg ne]
      · rw [z, a9]; unfold upd; rw [if_neg ne]
    · intro d hd
      simp only [List.mem_cons, List.not_mem_nil, or_false] at hd
      rcases hd with z | z | z
      · rw [z, a10]; unfold vp_updL; rw [if_neg ne]
      · rw [z, a11]; unfold vp_updL; rw [if_neg ne]
      · rw [z, a12]; unfold vp_updL; rw [if_neg ne]
  · rw [a4]; unfold upd; rw [if_pos rfl]
  · rw [a5]; unfold upd; rw [if_pos rfl]
  · rw [a6]; unfold upd; rw [if_pos rfl]
  · rw [a7]; unfold upd; rw [if_pos rfl]
  · rw [a8]; unfold upd; rw [if_pos rfl]
  · rw [a9]; unfold upd; rw [if_pos rfl]
  · rw [a10]; unfold vp_updL; rw [if_pos rfl]
  · rw [a11]; unfold vp_updL; rw [if_pos rfl]
  · rw [a12]; unfold vp_updL; rw [if_pos rfl]
theorem KD_n (h : KD kd) : ∃ kn : Nat, kd.toInt = kn ∧ kn < 5 := by
  rcases h with h | h | h | h | h
  · exact ⟨0, by rw [h]; decide, by omega⟩
  · exact ⟨1, by rw [h]; decide, by omega⟩
  · exact ⟨2, by rw [h]; decide, by omega⟩
  · exact ⟨3, by rw [h]; decide, by omega⟩
  · exact ⟨4, by rw [h]; decide, by omega⟩
/-- numbers grow alike -/
theorem NUM_add (h : NUM v u) (hkn : kn < 5) (h0 : 0 ≤ sz.toInt) (hsz : sz.toInt ≤ 400) (hle : cA v 228 kn + sz ≤ 400) (hA : cA w 228 = upd (cA v 228) kn (cA v 228 kn + sz)) (hx : x.2.2.1 64 = upd (u.2.2.1 64) kn (u.2.2.1 64 kn + sz)) (hI : cI w 12 = cI v 12 + sz) (h63 : x.1 63 = u.1 63 + sz) : NUM w x ∧ (cI w 12).toInt = (cI v 12).toInt + sz.toInt := by
  obtain ⟨a1, a2, a3⟩ := h
  have e400 : (400 : Int32).toInt = 400 := by decide
  obtain ⟨b1, b2, b3⟩ := a1 kn hkn
  have b40 := (a1 0 (by omega)).2
  have b41 := (a1 1 (by omega)).2
  have b42 := (a1 2 (by omega)).2
  have b43 := (a1 3 (by omega)).2
  have b44 := (a1 4 (by omega)).2
  have es : (cA v 228 kn + sz).toInt = (cA v 228 kn).toInt + sz.toInt := by rw [tI_add (by omega) (by omega)]
  have ei : (cI v 12 + sz).toInt = (cI v 12).toInt + sz.toInt := by rw [tI_add (by omega) (by omega)]
  have le' := Int32.le_iff_toInt_le.mp hle
  have at1 : cA w 228 kn = cA v 228 kn + sz := by rw [hA]; unfold upd; rw [if_pos rfl]
  have at2 : ∀ k, ¬ k = kn → cA w 228 k = cA v 228 k := fun k hk => by rw [hA]; unfold upd; rw [if_neg hk]
  refine ⟨⟨fun k hk => ?_, ?_, ?_⟩, by rw [hI]; exact ei⟩
  · by_cases z : k = kn
    · rw [z, at1, hx]
      unfold upd
      rw [if_pos rfl, b1]
      rw [b1] at es le' b2
      exact ⟨rfl, by omega, by omega⟩
    · rw [at2 k z, hx]
      unfold upd
      rw [if_neg z]
      exact a1 k hk
  · rw [hI, h63, a2]
  · rw [hI, ei, a3]
    have : kn = 0 ∨ kn = 1 ∨ kn = 2 ∨ kn = 3 ∨ kn = 4 := by omega
    rcases this with z | z | z | z | z <;> subst z
    · rw [at1, at2 1 (by decide), at2 2 (by decide), at2 3 (by decide), at2 4 (by decide)]; omega
    · rw [at1, at2 0 (by decide), at2 2 (by decide), at2 3 (by decide), at2 4 (by decide)]; omega
    · rw [at1, at2 0 (by decide), at2 1 (by decide), at2 3 (by decide), at2 4 (by decide)]; omega
    · rw [at1, at2 0 (by decide), at2 1 (by decide), at2 2 (by decide), at2 4 (by decide)]; omega
    · rw [at1, at2 0 (by decide), at2 1 (by decide), at2 2 (by decide), at2 3 (by decide)]; omega
/-- the new name, seen from before -/
theorem NEW_all {sn : Nat} (hs4 : sn ≤ 4) (hN : NGc v w q T so sn k0 H t) (hD : DCl w w2 (169 * q + T) how kd sz rw fs) : (∀ y, ¬ y = T → CNa v w2 q y) ∧ (∀ k, k ∉ [5, 6, 7, 8] → mI w2 (169 * q + T) k = mI w (169 * q + T) k) ∧ mL w2 (169 * q + T) 0 = H ∧ (∀ k, k ∉ [230, 231, 232, 233] → cA w2 k = cA v k) ∧ (∀ k, k ∉ [5, 13, 14, 15, 16, 17] → cI w2 k = cI v k) ∧ (∀ p k, k ∉ [12, 13, 14] → pI w2 p k = pI v p k) ∧ (pI w2 q 12).toInt = (T + 1 : Nat) ∧ pI w2 q 12 = pI v q 12 + 1 ∧ PAx v w2 q sn k0 T ∧ w2.2.2.2.2.2.2.2.1 = v.2.2.2.2.2.2.2.1 ∧ w2.2.2.2.2.2.2.2.2.2.2 = v.2.2.2.2.2.2.2.2.2.2 ∧ tkC v w2 ∧ mI w2 (169 * q + T) 1 = t ∧ mI w2 (169 * q + T) 2 = so ∧ mI w2 (169 * q + T) 3 = pI v q 12 ∧ mI w2 (169 * q + T) 4 = pA v q 9 sn ∧ mI w2 (169 * q + T) 14 = -1 := by
  have tk := tkC_tr (NGc_tk hN) (cfT_tk hD.1)
  obtain ⟨n1, n2, n3, n4, n5, n6, n7, n8, n9, n10, n11, n12, n13, n14⟩ := hN
  obtain ⟨⟨d1, d2, d3, d4, d5, d6, d7, d8, d9⟩, f6, f5, f7, f8, f10, fo, f0⟩ := hD
  obtain ⟨g1, g2, g3, g4, g5, g6, g7, g8, g9, g10, g11, g12⟩ := n12
  have ne : ∀ y, ¬ y = T → 169 * q + y ∉ [169 * q + T] := fun y hy z => hy (by have := List.mem_singleton.mp z; omega)
  obtain ⟨p1, p2, p3, p4, p5⟩ := n7
  refine ⟨fun y hy => ⟨fun k _ => (d7 _ k (ne y hy)).trans (n10 _ k (by omega)), fun k => (d8 _ k (ne y hy)).trans (n11 _ k (by omega))⟩, fo, f0.trans g1, fun k hk => (d2 k hk).trans (n2 k hk), fun k hk => (d1 k hk).trans (n1 k hk), fun p k hk => (d4 p k (fun z => hk (List.mem_cons_of_mem _ z))).trans (n4 p k hk), ?_, ?_, ⟨p1, ?_, fun p hp hn => ?_, ?_, fun p k hp hn => ?_⟩, d6.trans n8, d9.trans n9, tk, ?_, ?_, ?_, ?_, ?_⟩
  · rw [d4 q 12 (by decide)]; exact n5
  · rw [d4 q 12 (by decide)]; exact n6
  · rw [d5 q 9 (by decide)]; exact p2
  · rw [d5 q 9 (by decide)]; exact p3 p hp hn
  · rw [d5 q (4 + sn) (fun z => by simp only [List.mem_cons, List.not_mem_nil, or_false] at z; omega)]; exact p4
  · rw [d5 q (4 + p) (fun z => by simp only [List.mem_cons, List.not_mem_nil, or_false] at z; omega)]; exact p5 p k hp hn
  · rw [fo 1 (by decide)]; exact g3
  · rw [fo 2 (by decide)]; exact g4
  · rw [fo 3 (by decide)]; exact n13
  · rw [fo 4 (by decide)]; exact n14
  · rw [fo 14 (by decide)]; exact g12
end Vg
