/-! Statements of the reference: every rule, by what stands open. -/
section RSlev
variable {T N : Nat} {g g' : Nat} {o : Int} {ro : Nat → Int32 → Int32 → RSt → Option (Int32 × RSt)}
theorem fs_0 {d : Nat} {a b : Int32} {v : RSt} : FS_ N (d + 1) 0 a b v = F_body N (FS_ N d) v := rfl
theorem fs_1 {d : Nat} {a b : Int32} {v : RSt} : FS_ N (d + 1) 1 a b v = F_stat N (FS_ N d) v := rfl
theorem fs_2 {d : Nat} {a b : Int32} {v : RSt} : FS_ N (d + 1) 2 a b v = F_choice N (FS_ N d) v := rfl
theorem fs_3 {d : Nat} {a b : Int32} {v : RSt} : FS_ N (d + 1) 3 a b v = F_again N (FS_ N d) a v := rfl
theorem fs_4 {d : Nat} {a b : Int32} {v : RSt} : FS_ N (d + 1) 4 a b v = F_counts N (FS_ N d) a v := rfl
theorem fs_5 {d : Nat} {a b : Int32} {v : RSt} : FS_ N (d + 1) 5 a b v = F_cases N (FS_ N d) v := rfl
theorem HBr.we (h : HBr ro T o g) (hg : g ≤ g') : HBr ro T o g' := fun v h1 h2 h3 h4 => wp_mono (h v h1 h2 h3 h4) (fun _ _ hw => hw.we (fun _ => Int.le_refl _) hg)
theorem s_all (hN : 5000000000 ≤ N) : ∀ (L : Nat) (o : Int), 0 ≤ o → o + L = 25 → ∀ d, 3 * L + 1 ≤ d → HBr (FS_ N d) T o (525 + L) := by
  intro L
  induction L using Nat.strongRecOn with
  | ind L ih =>
    intro o h0 hL d hd v hv hs ho henv
    obtain ⟨d', rfl⟩ : ∃ d', d = d' + 1 := ⟨d - 1, by omega⟩
    rw [fs_0]
    refine e_body hN hv hs ho h0 henv (fun h24 => ?_) (by omega)
    obtain ⟨M, rfl⟩ : ∃ M, L = M + 1 := ⟨L - 1, by omega⟩
    intro v1 p1 s1 f1 o1 q1 env1
    obtain ⟨d2, rfl⟩ : ∃ d2, d' = d2 + 1 := ⟨d' - 1, by omega⟩
    rw [fs_1]
    refine e_stat hN p1 s1 f1 o1 (by omega) q1 env1 (fun q hq a v2 p2 s2 o2 env2 => ?_) (by omega)
    obtain ⟨d3, rfl⟩ : ∃ d3, d2 = d3 + 1 := ⟨d2 - 1, by omega⟩
    have hb : HBr (FS_ N d3) T (o + 1) (525 + M) := ih M (by omega) (o + 1) (by omega) (by omega) d3 (by omega)
    have up : ∀ {w : RSt}, STq v2 w T (o + 1) 4 (525 + M) → STq v2 w T (o + 1) 4 (525 + (M + 1)) := fun hw => hw.we (fun _ => Int.le_refl _) (by omega)
    rcases hq with rfl | rfl | rfl | rfl
    · rw [fs_2]
      exact wp_mono (e_choice hN p2 s2 o2 (by omega) (by omega) env2 hb (by omega)) (fun _ w hw => up hw)
    · rw [fs_3]
      exact wp_mono (e_again hN p2 s2 o2 (by omega) (by omega) env2 hb (by omega)) (fun _ w hw => up hw)
    · rw [fs_4]
      exact e_counts (g := 525 + M) hN p2 s2 o2 (by omega) (by omega) env2 hb (by omega)
    · rw [fs_5]
      refine wp_mono (e_cases hN p2 s2 o2 (by omega) (by omega) env2 (fun q2 => ?_) (by omega)) (fun _ w hw => up hw)
      obtain ⟨K, rfl⟩ : ∃ K, M = K + 1 := ⟨M - 1, by omega⟩
      exact (ih K (by omega) (o + 1 + 1) (by omega) (by omega) d3 (by omega)).we (by omega)
/-- a body, told by the whole machine -/
theorem x_body {v : RSt} (hN : 5000000000 ≤ N) (h0 : 0 ≤ o) (h25 : o ≤ 25) (hv : PRE v T) (hs : SLK 1 v) (ho : v.1 67 = 0 → opn v = o ∧ 0 ≤ o ∧ o ≤ 24) (he : ENVq v o) : wp (G_body N v) (fun _ w => STq v w T o 0 550) := by
  unfold G_body
  refine wp_mono (s_all (T := T) hN (25 - o).toNat o h0 (by omega) 100 (by omega) v hv hs ho he) (fun _ w hw => ?_)
  exact hw.we (fun _ => Int.le_refl _) (by omega)
/-- a statement, told by the whole machine -/
theorem x_stat {v : RSt} (hN : 5000000000 ≤ N) (h1 : 1 ≤ o) (hv : PRE v T) (hs : SLK 1 v) (hf : v.1 67 = 0) (ho : opn v = o) (h24 : o ≤ 24) (he : ENVq v (o - 1)) : wp (G_stat N v) (fun _ w => STq v w T o 0 550 ∧ (w.1 67 = 0 → kP v < kP w)) := by
  unfold G_stat
  rw [show (100 : Nat) = 98 + 1 + 1 from rfl, fs_1]
  obtain ⟨M, hM⟩ : ∃ M : Nat, o + M = 25 := ⟨(25 - o).toNat, by omega⟩
  have hb : HBr (FS_ N 98) T o (525 + M) := s_all hN M o (by omega) hM 98 (by omega)
  refine wp_mono (e_stat (g := 525 + (M + 1)) hN hv hs hf ho (by omega) h24 he (fun q hq a v2 p2 s2 o2 env2 => ?_) (by omega)) (fun _ w hw => ⟨hw.1.we (fun _ => Int.le_refl _) (by omega), hw.2⟩)
  have up : ∀ {w : RSt}, STq v2 w T o 4 (525 + M) → STq v2 w T o 4 (525 + (M + 1)) := fun hw => hw.we (fun _ => Int.le_refl _) (by omega)
  rcases hq with rfl | rfl | rfl | rfl
  · rw [fs_2]
    exact wp_mono (e_choice hN p2 s2 o2 (by omega) (by omega) env2 hb (by omega)) (fun _ w hw => up hw)
  · rw [fs_3]
    exact wp_mono (e_again hN p2 s2 o2 (by omega) (by omega) env2 hb (by omega)) (fun _ w hw => up hw)
  · rw [fs_4]
    exact e_counts (g := 525 + M) hN p2 s2 o2 (by omega) (by omega) env2 hb (by omega)
  · rw [fs_5]
    refine wp_mono (e_cases hN p2 s2 o2 (by omega) (by omega) env2 (fun q2 => ?_) (by omega)) (fun _ w hw => up hw)
    obtain ⟨K, rfl⟩ : ∃ K, M = K + 1 := ⟨M - 1, by omega⟩
    exact (s_all hN K (o + 1) (by omega) (by omega) 98 (by omega)).we (by omega)
/-- with no loop around, nothing waits: the code is typed -/
theorem STq.typ {u w : RSt} {e : Int} (h : STq u w T o e g) (h0 : u.1 74 = 0) (ha : act w) : TYP u w g [] [] := by
  obtain ⟨bs, cs, h⟩ := h
  obtain ⟨a1, -, -, a4⟩ := h.2.2 ha
  have hd : dL u = 0 := by unfold dL; rw [h0]; decide
  obtain ⟨rfl, rfl⟩ := a4.1 hd
  exact TYH.p a1
end RSlev
