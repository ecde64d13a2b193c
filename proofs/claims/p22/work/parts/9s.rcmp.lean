/-! Ranks can be made small: a run over the code of a side ends. -/
/-- how many places below n have a rank between 5 and r -/
def cq (H : Nat → Sh) (lo : Nat) (r : Nat) : Nat → Nat
  | 0 => 0
  | n + 1 => cq H lo r n + (if lo ≤ n ∧ 5 < (H n).2.1 ∧ (H n).2.1 < r then 1 else 0)
def fq (H : Nat → Sh) (lo n r : Nat) : Nat := if r ≤ 5 then r else 8 + 3 * cq H lo r n
section RCmp
variable {u v w : RSt} {H : Nat → Sh} {lo hi pc p n r r' : Nat} {f : Nat → Nat}
theorem cq_le : cq H lo r n ≤ n := by
  induction n with
  | zero => exact Nat.le_refl _
  | succ n ih =>
    show cq H lo r n + _ ≤ n + 1
    split <;> omega
theorem cq_mo (h : r ≤ r') : cq H lo r n ≤ cq H lo r' n := by
  induction n with
  | zero => exact Nat.le_refl _
  | succ n ih =>
    show cq H lo r n + _ ≤ cq H lo r' n + _
    by_cases c : lo ≤ n ∧ 5 < (H n).2.1 ∧ (H n).2.1 < r
    · rw [if_pos c, if_pos ⟨c.1, c.2.1, by omega⟩]; omega
    · rw [if_neg c]; omega
theorem cq_lt (hp : p < n) (hl : lo ≤ p) (h5 : 5 < (H p).2.1) (h : (H p).2.1 < r') : cq H lo (H p).2.1 n + 1 ≤ cq H lo r' n := by
  induction n with
  | zero => omega
  | succ n ih =>
    show cq H lo (H p).2.1 n + _ + 1 ≤ cq H lo r' n + _
    by_cases c : p = n
    · subst c
      rw [if_neg (by omega), if_pos ⟨hl, h5, h⟩]
      have := cq_mo (H := H) (lo := lo) (n := p) (r := (H p).2.1) (r' := r') (by omega)
      omega
    · have := ih (by omega)
      by_cases d : lo ≤ n ∧ 5 < (H n).2.1 ∧ (H n).2.1 < (H p).2.1
      · rw [if_pos d, if_pos ⟨d.1, d.2.1, by omega⟩]; omega
      · rw [if_neg d]; omega
theorem LC.cmp (h : LC u H lo hi pc) (hf1 : ∀ p, lo ≤ p → p ≤ hi → (H p).2.1 < (H pc).2.1 → f (H p).2.1 < f (H pc).2.1) (hf3 : ∀ p, lo ≤ p → p ≤ hi → (H p).2.1 + 3 ≤ (H pc).2.1 → f (H p).2.1 + 3 ≤ f (H pc).2.1) (hf2 : ∀ r, r ≤ 2 → f r ≤ 2) (hf0 : ∀ r, 1 ≤ r → 1 ≤ f r) : LC u (fun p => ((H p).1, f (H p).2.1, (H p).2.2)) lo hi pc := by
  have nx : ∀ {p σ}, NX u H lo hi pc p σ → NX u (fun p => ((H p).1, f (H p).2.1, (H p).2.2)) lo hi pc p σ := fun h => ⟨h.1, h.2.1, h.2.2.1, h.2.2.2.1, h.2.2.2.2.elim (fun q => Or.inl (hf1 _ h.1 h.2.1 q)) (fun q => Or.inr ⟨q.1, q.2.1, hf0 _ q.2.2⟩)⟩
  have nx3 : ∀ {p σ}, NX3 u H lo hi pc p σ → NX3 u (fun p => ((H p).1, f (H p).2.1, (H p).2.2)) lo hi pc p σ := fun h => ⟨h.1, h.2.1, h.2.2.1, h.2.2.2.1, hf3 _ h.1 h.2.1 h.2.2.2.2⟩
  have en : ∀ {e m}, ENT u H lo hi e m → ENT u (fun p => ((H p).1, f (H p).2.1, (H p).2.2)) lo hi e m := fun ⟨p, h0, h1, h2, h3, h4, h5⟩ => ⟨p, h0, h1, h2, h3, h4, h5.elim (fun q => Or.inl (hf2 _ q)) Or.inr⟩
  obtain ⟨hl, h⟩ := h
  refine ⟨hl, ?_⟩
  rcases h with h | h | h | h | h | h | h | h | h | h | h | h | h | h | h | h | h | h | h | h | h | h | h | h
  · exact Or.inl h
  · exact Or.inr (Or.inl ⟨h.1, nx h.2⟩)
  · exact Or.inr (Or.inr (Or.inl ⟨h.1, nx h.2⟩))
  · exact Or.inr (Or.inr (Or.inr (Or.inl ⟨h.1, h.2.1, h.2.2.1, nx h.2.2.2⟩)))
  · exact Or.inr (Or.inr (Or.inr (Or.inr (Or.inl ⟨h.1, h.2.1, h.2.2.1, nx h.2.2.2⟩))))
  · obtain ⟨h1, t, s, σ, h2, h3, h4, h5, h6, h7⟩ := h
    exact Or.inr (Or.inr (Or.inr (Or.inr (Or.inr (Or.inl ⟨h1, t, s, σ, h2, h3, h4, h5, h6, nx h7⟩)))))
  · obtain ⟨h1, h0, t, σ, h2, h3⟩ := h
    exact Or.inr (Or.inr (Or.inr (Or.inr (Or.inr (Or.inr (Or.inl ⟨h1, h0, t, σ, h2, nx h3⟩))))))
  · obtain ⟨h1, t, σ, h2, h3, h4⟩ := h
    exact Or.inr (Or.inr (Or.inr (Or.inr (Or.inr (Or.inr (Or.inr (Or.inl ⟨h1, t, σ, h2, h3, nx h4⟩)))))))
  · obtain ⟨h1, t, σ, h2, h3, h4⟩ := h
    exact Or.inr (Or.inr (Or.inr (Or.inr (Or.inr (Or.inr (Or.inr (Or.inr (Or.inl ⟨h1, t, σ, h2, h3, nx h4⟩))))))))
  · obtain ⟨h1, s, t, σ, h2, h3, h4⟩ := h
    exact Or.inr (Or.inr (Or.inr (Or.inr (Or.inr (Or.inr (Or.inr (Or.inr (Or.inr (Or.inl ⟨h1, s, t, σ, h2, h3, nx h4⟩)))))))))
  · obtain ⟨h1, s, t, σ, h2, h3, h4, h5⟩ := h
    exact Or.inr (Or.inr (Or.inr (Or.inr (Or.inr (Or.inr (Or.inr (Or.inr (Or.inr (Or.inr (Or.inl ⟨h1, s, t, σ, h2, h3, h4, nx h5⟩))))))))))
  · obtain ⟨h1, t, σ, h2, h3⟩ := h
    exact Or.inr (Or.inr (Or.inr (Or.inr (Or.inr (Or.inr (Or.inr (Or.inr (Or.inr (Or.inr (Or.inr (Or.inl ⟨h1, t, σ, h2, nx h3⟩)))))))))))
  · obtain ⟨h1, s, t, σ, h2, h3⟩ := h
    exact Or.inr (Or.inr (Or.inr (Or.inr (Or.inr (Or.inr (Or.inr (Or.inr (Or.inr (Or.inr (Or.inr (Or.inr (Or.inl ⟨h1, s, t, σ, h2, nx h3⟩))))))))))))
  · obtain ⟨h1, t, σ, p, h2, h3, h4, h5⟩ := h
    exact Or.inr (Or.inr (Or.inr (Or.inr (Or.inr (Or.inr (Or.inr (Or.inr (Or.inr (Or.inr (Or.inr (Or.inr (Or.inr (Or.inl ⟨h1, t, σ, p, h2, nx h3, h4, nx h5⟩)))))))))))))
  · obtain ⟨h1, p, h2, h3⟩ := h
    exact Or.inr (Or.inr (Or.inr (Or.inr (Or.inr (Or.inr (Or.inr (Or.inr (Or.inr (Or.inr (Or.inr (Or.inr (Or.inr (Or.inr (Or.inl ⟨h1, p, h2, nx h3⟩))))))))))))))
  · obtain ⟨h1, ⟨h2, h3, s, t, σ, h4, h5⟩ | ⟨h2, t, σ, h4, h5⟩⟩ := h
    · exact Or.inr (Or.inr (Or.inr (Or.inr (Or.inr (Or.inr (Or.inr (Or.inr (Or.inr (Or.inr (Or.inr (Or.inr (Or.inr (Or.inr (Or.inr (Or.inl ⟨h1, Or.inl ⟨h2, h3, s, t, σ, h4, nx h5⟩⟩)))))))))))))))
    · exact Or.inr (Or.inr (Or.inr (Or.inr (Or.inr (Or.inr (Or.inr (Or.inr (Or.inr (Or.inr (Or.inr (Or.inr (Or.inr (Or.inr (Or.inr (Or.inl ⟨h1, Or.inr ⟨h2, t, σ, h4, nx h5⟩⟩)))))))))))))))
  · obtain ⟨h1, h2, ⟨h3, f, f1, f2⟩, as, σ, h4, h5, h6, h7⟩ := h
    exact Or.inr (Or.inr (Or.inr (Or.inr (Or.inr (Or.inr (Or.inr (Or.inr (Or.inr (Or.inr (Or.inr (Or.inr (Or.inr (Or.inr (Or.inr (Or.inr (Or.inl ⟨h1, h2, ⟨h3, f, f1, f2⟩, as, σ, h4, h5, nx3 h6, en h7⟩))))))))))))))))
  · obtain ⟨h1, h2, ⟨h3, f, f1, f2⟩, h4, h5, h6, h7⟩ := h
    exact Or.inr (Or.inr (Or.inr (Or.inr (Or.inr (Or.inr (Or.inr (Or.inr (Or.inr (Or.inr (Or.inr (Or.inr (Or.inr (Or.inr (Or.inr (Or.inr (Or.inr (Or.inl ⟨h1, h2, ⟨h3, f, f1, f2⟩, nx3 h4, h5, h6, en h7⟩)))))))))))))))))
  · exact Or.inr (Or.inr (Or.inr (Or.inr (Or.inr (Or.inr (Or.inr (Or.inr (Or.inr (Or.inr (Or.inr (Or.inr (Or.inr (Or.inr (Or.inr (Or.inr (Or.inr (Or.inr (Or.inl ⟨h.1, h.2.1, hf0 _ h.2.2⟩))))))))))))))))))
  · exact Or.inr (Or.inr (Or.inr (Or.inr (Or.inr (Or.inr (Or.inr (Or.inr (Or.inr (Or.inr (Or.inr (Or.inr (Or.inr (Or.inr (Or.inr (Or.inr (Or.inr (Or.inr (Or.inr (Or.inl ⟨h.1, h.2.1, hf0 _ h.2.2.1, h.2.2.2⟩)))))))))))))))))))
  · exact Or.inr (Or.inr (Or.inr (Or.inr (Or.inr (Or.inr (Or.inr (Or.inr (Or.inr (Or.inr (Or.inr (Or.inr (Or.inr (Or.inr (Or.inr (Or.inr (Or.inr (Or.inr (Or.inr (Or.inr (Or.inl h))))))))))))))))))))
  · obtain ⟨h1, t, σ, p, h2, h3, h4, h5⟩ := h
    exact Or.inr (Or.inr (Or.inr (Or.inr (Or.inr (Or.inr (Or.inr (Or.inr (Or.inr (Or.inr (Or.inr (Or.inr (Or.inr (Or.inr (Or.inr (Or.inr (Or.inr (Or.inr (Or.inr (Or.inr (Or.inr (Or.inl ⟨h1, t, σ, p, h2, nx h3, h4, nx h5⟩)))))))))))))))))))))
  · obtain ⟨h1, t, σ, h2, h3⟩ := h
    exact Or.inr (Or.inr (Or.inr (Or.inr (Or.inr (Or.inr (Or.inr (Or.inr (Or.inr (Or.inr (Or.inr (Or.inr (Or.inr (Or.inr (Or.inr (Or.inr (Or.inr (Or.inr (Or.inr (Or.inr (Or.inr (Or.inr (Or.inl ⟨h1, t, σ, h2, nx h3⟩))))))))))))))))))))))
  · obtain ⟨h1, s, t, σ, p, h2, h3, h4, h5⟩ := h
    exact Or.inr (Or.inr (Or.inr (Or.inr (Or.inr (Or.inr (Or.inr (Or.inr (Or.inr (Or.inr (Or.inr (Or.inr (Or.inr (Or.inr (Or.inr (Or.inr (Or.inr (Or.inr (Or.inr (Or.inr (Or.inr (Or.inr (Or.inr ⟨h1, s, t, σ, p, h2, nx h3, h4, nx h5⟩))))))))))))))))))))))
/-- the code of a side, with small ranks -/
theorem SCD.code {s : Nat} (h : SCD u s) (hs : s ≤ 1) (h0 : 0 < (u.2.2.1 54 s).toInt) : ∃ H, CODE u H (8000 * s) (8000 * s + (u.2.2.1 54 s).toInt.toNat) ∧ ∀ k : Nat, (k : Int) < (u.2.2.1 48 s).toInt → ∃ p : Nat, (u.2.2.1 45 (8 * s + k)).toInt = p ∧ 8000 * s ≤ p ∧ p < 8000 * s + (u.2.2.1 54 s).toInt.toNat ∧ (H p).1 = 0 ∧ (H p).2.2 = [] := by
  obtain ⟨⟨h1, h2⟩, H, h3, h4⟩ := h
  generalize eE : 8000 * s + (u.2.2.1 54 s).toInt.toNat = E at h3 h4 ⊢
  have lt1 : ∀ p pc, 8000 * s ≤ p → p ≤ E - 1 → (H p).2.1 < (H pc).2.1 → fq H (8000 * s) E (H p).2.1 < fq H (8000 * s) E (H pc).2.1 := by
    intro p pc q1 q2 q3
    unfold fq
    by_cases c : (H pc).2.1 ≤ 5
    · rw [if_pos c, if_pos (by omega)]; exact q3
    · rw [if_neg c]
      by_cases d : (H p).2.1 ≤ 5
      · rw [if_pos d]; omega
      · rw [if_neg d]
        have := cq_lt (H := H) (lo := 8000 * s) (n := E) (p := p) (r' := (H pc).2.1) (by omega) q1 (by omega) q3
        omega
  have lt3 : ∀ p pc, 8000 * s ≤ p → p ≤ E - 1 → (H p).2.1 + 3 ≤ (H pc).2.1 → fq H (8000 * s) E (H p).2.1 + 3 ≤ fq H (8000 * s) E (H pc).2.1 := by
    intro p pc q1 q2 q3
    unfold fq
    by_cases c : (H pc).2.1 ≤ 5
    · rw [if_pos c, if_pos (by omega)]; exact q3
    · rw [if_neg c]
      by_cases d : (H p).2.1 ≤ 5
      · rw [if_pos d]; omega
      · rw [if_neg d]
        have := cq_lt (H := H) (lo := 8000 * s) (n := E) (p := p) (r' := (H pc).2.1) (by omega) q1 (by omega) (by omega)
        omega
  refine ⟨fun p => ((H p).1, fq H (8000 * s) E (H p).2.1, (H p).2.2), ⟨by omega, by omega, fun pc q1 q2 => ⟨?_, ?_⟩⟩, fun k hk => ?_⟩
  · exact (h3 pc q1 q2).cmp (fun p g1 g2 => lt1 p pc g1 g2) (fun p g1 g2 => lt3 p pc g1 g2) (fun r hr => by unfold fq; rw [if_pos (by omega)]; exact hr) (fun r hr => by unfold fq; split <;> omega)
  · show fq H (8000 * s) E (H pc).2.1 ≤ 160000
    have := cq_le (H := H) (lo := 8000 * s) (r := (H pc).2.1) (n := E)
    unfold fq
    split <;> omega
  · obtain ⟨⟨p, g1, g2, g3, g4, g5⟩, -⟩ := h4 k hk
    exact ⟨p, g1, g2, g3, g4, g5⟩
/-- the invariant stays where none of its cells changes -/
theorem UR.fx {a b c : List Nat} (hu : UR u) (hf : FX a b c u w) (ha : ∀ k, k ∈ [1, 55, 56, 61, 72, 98, 103, 105] → k ∉ a) (hb : ∀ k, k ∈ [10, 11, 12, 13, 15, 19, 20, 21, 23, 27, 28, 29, 30, 31, 32, 33, 36, 37, 38, 39, 42, 43, 45, 48, 49, 50, 51, 54, 95, 96] → k ∉ b) : UR w := by
  have h1 : ∀ k, k ∈ [1, 55, 56, 61, 72, 98, 103, 105] → w.1 k = u.1 k := fun k hk => hf.1 k (ha k hk)
  have h2 : ∀ k, k ∈ [10, 11, 12, 13, 15, 19, 20, 21, 23, 27, 28, 29, 30, 31, 32, 33, 36, 37, 38, 39, 42, 43, 45, 48, 49, 50, 51, 54, 95, 96] → w.2.2.1 k = u.2.2.1 k := fun k hk => hf.2.1 k (hb k hk)
  obtain ⟨u1, u2, u3, u4, u5, u6, u7⟩ := hu
  have es : sN w = sN u := by unfold sN; rw [h1 55 (by decide)]
  obtain ⟨c1, c2⟩ := u4.fr (w := w) u5 u1.2.2.2.2.1 (SZq.of (fun k hk => h2 k (by
    simp only [List.mem_cons, List.not_mem_nil, or_false] at hk ⊢
    omega)))
  refine ⟨hf.tb0 u1 (fun k hk => ha k ?_) (fun k hk => hb k ?_), u2.of (h2 11 (by decide)) (h2 12 (by decide)), by rw [h1 55 (by decide)]; exact u3, by rw [es]; exact c1, by rw [es]; exact c2, by unfold TPq; rw [h1 1 (by decide)]; exact u6, ?_⟩
  · simp only [List.mem_cons, List.not_mem_nil, or_false] at hk ⊢
    omega
  · simp only [List.mem_cons, List.not_mem_nil, or_false] at hk ⊢
    omega
  · unfold WQ
    rw [h1 98 (by decide), h1 103 (by decide), h1 105 (by decide), h2 95 (by decide), h2 96 (by decide)]
    exact u7
theorem x_run {N : Nat} {l1 : Int32} (hN : 100000000000000 ≤ N) (hu : UR u) (hl : ∃ k : Nat, (k : Int) < (u.2.2.1 48 (sN u)).toInt ∧ l1 = u.2.2.1 45 (8 * sN u + k)) : wp (F_run N l1 u) (fun _ w => FX [112, 113, 114, 115, 116, 117, 118, 119] [85, 108, 109, 110, 111] [82, 107] u w) := by
  obtain ⟨k, k1, k2⟩ := hl
  obtain ⟨u1, u2, u3, u4, u5, u6, u7⟩ := hu
  obtain ⟨t1, t2, t3, t4, t5, t6, t7, t8, t9, t10⟩ := u1
  have hs : sN u ≤ 1 := by show (u.1 55).toInt.toNat ≤ 1; omega
  have h0 : 0 < (u.2.2.1 54 (sN u)).toInt := by
    obtain ⟨-, H, -, h4⟩ := id u4
    obtain ⟨⟨p, g1, g2, g3, -⟩, -⟩ := h4 k k1
    omega
  obtain ⟨H, hc, ht⟩ := u4.code hs h0
  obtain ⟨p, p1, p2, p3, p4, p5⟩ := ht k k1
  have tb : TBS u := ⟨fun x => ⟨(t2 x).2.2.1, (t2 x).2.2.2.1, (t2 x).2.2.2.2.1⟩, fun p => ⟨(t3 p).1, (t3 p).2.1, (t3 p).2.2.1, (t3 p).2.2.2.1, (t3 p).2.2.2.2.1⟩, fun i => ⟨(t4 i).2.2.1, (t4 i).2.2.2⟩, u3.1, u3.2⟩
  have hd := u7.2.2.2
  refine wp_mono (m_run hN tb hc ⟨p, by rw [k2]; exact p1, p2, p3, p4, p5⟩ (by omega) (by omega)) (fun _ w hw => ?_)
  obtain ⟨w1, w2, w3⟩ := hw
  refine ⟨fun k hk => w1 k ?_, fun k hk => ?_, fun k hk => ?_⟩
  · simp only [List.mem_cons, List.not_mem_nil, or_false, not_or] at hk
    omega
  · simp only [List.mem_cons, List.not_mem_nil, or_false, not_or] at hk
    exact w2 k hk.1 hk.2.1 hk.2.2.1 hk.2.2.2.1 hk.2.2.2.2
  · simp only [List.mem_cons, List.not_mem_nil, or_false, not_or] at hk
    exact w3 k hk.1 hk.2
end RCmp
