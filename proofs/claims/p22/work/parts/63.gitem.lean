/-! Statements by levels; routines, tasks; the whole first pass. -/
def gVs (u0 : CSt) : Nat → Nat → Nat → Prop
  | 0, i, j => ¬ tyF u0 i = 1 ∧ ∃ c, gSl u0 (gS u0 24) c i j
  | c + 1, i, j => tyF u0 i = 1 ∧ ∃ k, gVariables u0 i k ∧ gVs u0 c k j
def gPl (u0 : CSt) : Nat → Nat → Nat → Prop
  | 0, i, j => ¬ tyF u0 i = 44 ∧ tyF u0 i = 41 ∧ tyF u0 (i + 1) = 123 ∧ ∃ c, gVs u0 c (i + 2) j
  | c + 1, i, j => tyF u0 i = 44 ∧ gK u0 (i + 1) ∧ tyF u0 (i + 2) = 128 ∧ gPl u0 c (i + 3) j
def gRout (u0 : CSt) (i j : Nat) : Prop := tyF u0 i = 128 ∧ tyF u0 (i + 1) = 40 ∧ ∃ k c, (tyF u0 (i + 2) = 41 ∧ k = i + 2 ∨ ¬ tyF u0 (i + 2) = 41 ∧ gK u0 (i + 2) ∧ tyF u0 (i + 3) = 128 ∧ k = i + 4) ∧ gPl u0 c k j
def gCyc (u0 : CSt) (i j : Nat) : Prop := tyF u0 (i + 1) = 128 ∧ tyF u0 (i + 2) = 10 ∧ tyF u0 (i + 3) = 129 ∧ ∃ k, (¬ tyF u0 (i + 4) = 11 ∧ k = i + 4 ∨ tyF u0 (i + 4) = 11 ∧ tyF u0 (i + 5) = 129 ∧ k = i + 6) ∧ gB u0 25 k j
def gItem (u0 : CSt) (i j : Nat) : Prop := ((tyF u0 i = 1 ∨ tyF u0 i = 2) ∧ gVariables u0 i j) ∨ ((tyF u0 i = 3 ∨ tyF u0 i = 4) ∧ gPlaced u0 i j) ∨ (tyF u0 i = 6 ∧ gRout u0 (i + 1) j) ∨ (tyF u0 i = 7 ∧ gUses u0 i j) ∨ (tyF u0 i = 8 ∧ gK u0 (i + 1) ∧ gRout u0 (i + 2) j) ∨ (tyF u0 i = 9 ∧ gCyc u0 i j)
def gItems (u0 : CSt) : Nat → Nat → Nat → Prop
  | 0, i, j => tyF u0 i = 0 ∧ j = i
  | c + 1, i, j => ¬ tyF u0 i = 0 ∧ ∃ k, gItem u0 i k ∧ gItems u0 c k j
section GItem
variable {N n i o d L : Nat} {u0 u : CSt}
theorem g_SB (hb : TB u0 n) (hN : 2000 ≤ N) : ∀ (L o : Nat), o + L = 24 →
    (∀ (d i : Nat) (u : CSt), 4 * L + 4 ≤ d → GR u0 u i o → i ≤ n → wq (FGS_ N d 2 0 0 0 u) (GP u0 n o (gS u0 (L + 1)) i)) ∧
    (∀ (d i : Nat) (u : CSt), 4 * L + 2 ≤ d → GR u0 u i o → i ≤ n → wq (FGS_ N d 0 0 0 0 u) (GP u0 n o (gB u0 (L + 1)) i)) ∧
    (∀ (d i : Nat) (u : CSt), o < 24 → 4 * L + 1 ≤ d → GR u0 u i (o + 1) → i ≤ n → wq (FGS_ N d 1 0 0 0 u) (GQ u0 n o (fun i j => ∃ c, gSl u0 (gS u0 L) c i j) i)) := by
  intro L
  induction L with
  | zero =>
    intro o ho
    have ho2 : o ≤ 24 := by omega
    have hF : ∀ {P : Prop}, o < 24 → P := fun h => absurd h (by omega)
    have hl : 25 - o = 0 + 1 := by omega
    have hl2 : 24 - o = 0 := by omega
    have h0 : ∀ (d i : Nat) (u : CSt), 4 * 0 + 2 ≤ d → GR u0 u i o → i ≤ n → wq (FGS_ N d 0 0 0 0 u) (GP u0 n o (gB u0 (0 + 1)) i) := by
      intro d i u hd h hi
      obtain ⟨d, rfl⟩ : ∃ e, d = e + 1 := ⟨d - 1, by omega⟩
      exact g_body hb ho2 (fun q => hF q) h hi
    refine ⟨?_, h0, fun d i u q => hF q⟩
    intro d i u hd h hi
    obtain ⟨d, rfl⟩ : ∃ e, d = e + 2 := ⟨d - 2, by omega⟩
    have := g_statement (ro := FGS_ N (d + 1)) (B := gB u0 (0 + 1)) (B' := gB u0 0) hb hN ho2 (fun i u h hi => h0 (d + 1) i u (by omega) h hi) (fun i u h hi ht => g_choice hb hN ho2 (fun i u h hi => h0 d i u (by omega) h hi) h hi ht) (fun i u h hi ht => g_counted hb hN ho2 (fun i u h hi => h0 d i u (by omega) h hi) h hi ht) (fun i u h hi ht => g_cases hb hN ho2 (fun q => hF q) h hi ht) h hi
    rw [hl, hl2] at this
    exact this
  | succ L ih =>
    intro o ho
    have ho2 : o ≤ 24 := by omega
    obtain ⟨i2, i0, -⟩ := ih (o + 1) (by omega)
    have hl : 25 - o = L + 1 + 1 := by omega
    have hl2 : 24 - o = L + 1 := by omega
    have h1 : ∀ (d i : Nat) (u : CSt), 4 * (L + 1) + 1 ≤ d → GR u0 u i (o + 1) → i ≤ n → wq (FGS_ N d 1 0 0 0 u) (GQ u0 n o (fun i j => ∃ c, gSl u0 (gS u0 (L + 1)) c i j) i) := by
      intro d i u hd h hi
      obtain ⟨d, rfl⟩ : ∃ e, d = e + 1 := ⟨d - 1, by omega⟩
      exact g_statements hb hN (fun i u h hi => i2 d i u (by omega) h hi) h hi
    have h0 : ∀ (d i : Nat) (u : CSt), 4 * (L + 1) + 2 ≤ d → GR u0 u i o → i ≤ n → wq (FGS_ N d 0 0 0 0 u) (GP u0 n o (gB u0 (L + 1 + 1)) i) := by
      intro d i u hd h hi
      obtain ⟨d, rfl⟩ : ∃ e, d = e + 1 := ⟨d - 1, by omega⟩
      exact g_body hb ho2 (fun _ i u h hi => h1 d i u (by omega) h hi) h hi
    refine ⟨?_, h0, fun d i u _ => h1 d i u⟩
    intro d i u hd h hi
    obtain ⟨d, rfl⟩ : ∃ e, d = e + 2 := ⟨d - 2, by omega⟩
    have := g_statement (ro := FGS_ N (d + 1)) (B := gB u0 (L + 1 + 1)) (B' := gB u0 (L + 1)) hb hN ho2 (fun i u h hi => h0 (d + 1) i u (by omega) h hi) (fun i u h hi ht => g_choice hb hN ho2 (fun i u h hi => h0 d i u (by omega) h hi) h hi ht) (fun i u h hi ht => g_counted hb hN ho2 (fun i u h hi => h0 d i u (by omega) h hi) h hi ht) (fun i u h hi ht => g_cases hb hN ho2 (fun _ i u h hi => i0 d i u (by omega) h hi) h hi ht) h hi
    rw [hl, hl2] at this
    exact this
theorem g_B0 (hb : TB u0 n) (hN : 2000 ≤ N) (h : GR u0 u i 0) (hi : i ≤ n) : wq (G_X0_body N u) (GP u0 n 0 (gB u0 25) i) :=
  (g_SB hb hN 24 0 (by omega)).2.1 150 i u (by omega) h hi
theorem g_S0 (hb : TB u0 n) (hN : 2000 ≤ N) (h : GR u0 u i 1) (hi : i ≤ n) : wq (G_X0_statements N u) (GQ u0 n 0 (fun i j => ∃ c, gSl u0 (gS u0 24) c i j) i) :=
  (g_SB hb hN 24 0 (by omega)).2.2 150 i u (by omega) (by omega) h hi
theorem g_routine (hb : TB u0 n) (hN : 2000 ≤ N) (h : GR u0 u i 0) (hi : i ≤ n) : wq (F_X0_routine N u) (GP u0 n 0 (gRout u0) i) := by
  simp only [F_X0_routine, B_X0_routine_0]
  refine gtk hb h hi (nEnd (by decide) (by decide) (by decide)) (fun _ w t1 l1 h1 => ?_)
  refine gop hb h1 (by omega) (nEnd (by decide) (by decide) (by decide)) (by omega) (fun _ w2 t2 _ l2 h2 => ?_)
  have tail : ∀ (k : Nat) (w : CSt), GR u0 w k 1 → k ≤ n → wq (B_X0_routine_42 N w) (GS u0 (fun w => ∃ c j, gPl u0 c k j ∧ k ≤ j ∧ j ≤ n ∧ GR u0 w j 0)) := by
    intro k w hw hk
    unfold B_X0_routine_42
    refine g_list (P := gPl u0) hb hN ?_ hw hk
    intro R l v k hk hkn h15 _ ih
    show wq (B_X0_routine_44 N R l v) _
    unfold B_X0_routine_44
    have fin : ¬ tyF u0 k = 44 → wq (B_X0_routine_90 N v) (GS u0 (fun w => ∃ c j, gPl u0 c k j ∧ k ≤ j ∧ j ≤ n ∧ GR u0 w j 0)) := by
      intro c
      unfold B_X0_routine_90
      refine gcl hb hk hkn (nEnd (by decide) (by decide) (by decide)) (fun _ w t3 l3 h4 => ?_)
      refine gop hb h4 (by omega) (nEnd (by decide) (by decide) (by decide)) (by omega) (fun _ w3 t4 _ l4 h5 => ?_)
      refine wq_mono (g_list (P := gVs u0) (o2 := 0) hb hN ?_ h5 (by omega)) (fun y w hy => ?_)
      · intro R l v k hk hkn h15 _ ih
        show wq (B_X0_routine_104 N R l v) _
        unfold B_X0_routine_104
        have fin2 : ¬ tyF u0 k = 1 → wq (B_X0_routine_132 N v) (GS u0 (fun w => ∃ c j, gVs u0 c k j ∧ k ≤ j ∧ j ≤ n ∧ GR u0 w j 0)) := by
          intro c2
          unfold B_X0_routine_132
          exact gsq (g_S0 hb hN hk hkn) (fun _ w4 m x1 x2 x3 h6 => gend ⟨0, m, ⟨c2, x1⟩, x2, x3, h6⟩)
        refine wq_if.mpr ⟨fun c2 => ?_, fun c2 => ?_⟩
        · have hkn2 := h15 c2
          exact fin2 (fun q => nEnd (t := 1) (by decide) (by decide) (by decide) (by rw [← q, hkn2]; exact hb.2.2))
        · refine gis hb hk hkn (fun c3 => ?_) fin2
          have l5 : k < n := GR.lt hb hkn (by rw [c3]; exact nEnd (by decide) (by decide) (by decide))
          refine gsp (X := gVariables u0) (g_variables hb hN hk l5 (by omega)) (fun _ w5 m x1 x2 x3 h6 => ?_)
          exact gcons (by omega) (fun c j' q => ⟨c + 1, c3, m, x1, q⟩) (ih m w5 (by omega) x3 h6)
      · rcases hy with hy | ⟨r, e, c3, j, g1, g2, g3, g4⟩
        · exact Or.inl hy
        · exact Or.inr ⟨r, e, 0, j, ⟨c, t3, t4, c3, g1⟩, by omega, g3, g4⟩
    refine wq_if.mpr ⟨fun c => ?_, fun c => ?_⟩
    · have hkn2 := h15 c
      exact fin (fun q => nEnd (t := 44) (by decide) (by decide) (by decide) (by rw [← q, hkn2]; exact hb.2.2))
    · refine gis hb hk hkn (fun c2 => ?_) fin
      refine gnx hb hk hkn (by rw [c2]; exact nEnd (by decide) (by decide) (by decide)) (fun _ w l3 h4 => ?_)
      refine gkd hb h4 (by omega) (fun _ w3 k1 l4 h5 => ?_)
      refine gtk hb h5 (by omega) (nEnd (by decide) (by decide) (by decide)) (fun _ w4 t3 l5 h6 => ?_)
      exact gcons (by omega) (fun c j' q => ⟨c + 1, c2, k1, t3, q⟩) (ih (k + 3) w4 (by omega) (by omega) h6)
  have done : ∀ (k : Nat) (w : CSt), GR u0 w k 1 → i + 2 ≤ k → k ≤ n → (tyF u0 (i + 2) = 41 ∧ k = i + 2 ∨ ¬ tyF u0 (i + 2) = 41 ∧ gK u0 (i + 2) ∧ tyF u0 (i + 3) = 128 ∧ k = i + 4) → wq (B_X0_routine_42 N w) (GP u0 n 0 (gRout u0) i) := by
    intro k w hw hk1 hk2 hk
    refine wq_mono (tail k w hw hk2) (fun y w hy => ?_)
    rcases hy with hy | ⟨r, e, c3, j, g1, g2, g3, g4⟩
    · exact Or.inl hy
    · exact Or.inr ⟨r, e, j, ⟨t1, t2, k, c3, hk, g1⟩, by omega, g3, g4⟩
  refine gis hb h2 (by omega) (fun c => done _ _ h2 (by omega) (by omega) (Or.inl ⟨c, rfl⟩)) (fun c => ?_)
  refine gkd hb h2 (by omega) (fun _ w3 k1 l4 h5 => ?_)
  refine gtk hb h5 (by omega) (nEnd (by decide) (by decide) (by decide)) (fun _ w4 t3 l5 h6 => ?_)
  exact done _ _ h6 (by omega) (by omega) (Or.inr ⟨c, k1, t3, rfl⟩)
theorem g_cyclic (hb : TB u0 n) (hN : 2000 ≤ N) (h : GR u0 u i 0) (hi : i < n) : wq (F_X0_cyclic N u) (GP u0 n 0 (gCyc u0) i) := by
  simp only [F_X0_cyclic, B_X0_cyclic_0]
  refine g_next hb h hi (fun _ w h1 => ?_)
  refine gtk hb h1 (by omega) (nEnd (by decide) (by decide) (by decide)) (fun _ w t1 l1 h2 => ?_)
  refine gtk hb h2 (by omega) (nEnd (by decide) (by decide) (by decide)) (fun _ w t2 l2 h3 => ?_)
  refine gtk hb h3 (by omega) (nEnd (by decide) (by decide) (by decide)) (fun _ w t3 l3 h4 => ?_)
  have done : ∀ (k : Nat) (w : CSt), GR u0 w k 0 → i + 4 ≤ k → k ≤ n → (¬ tyF u0 (i + 4) = 11 ∧ k = i + 4 ∨ tyF u0 (i + 4) = 11 ∧ tyF u0 (i + 5) = 129 ∧ k = i + 6) → wq (B_X0_cyclic_65 N w) (GP u0 n 0 (gCyc u0) i) := by
    intro k w hw hk1 hk2 hk
    unfold B_X0_cyclic_65
    exact gsp (g_B0 hb hN hw hk2) (fun _ w2 m x1 x2 x3 h6 => gend ⟨m, ⟨t1, t2, t3, k, hk, x1⟩, by omega, x3, h6⟩)
  refine gis hb h4 (by omega) (fun c => ?_) (fun c => done _ _ h4 (by omega) (by omega) (Or.inl ⟨c, rfl⟩))
  refine gnx hb h4 (by omega) (by rw [c]; exact nEnd (by decide) (by decide) (by decide)) (fun _ w5 l5 h5 => ?_)
  refine gtk hb h5 (by omega) (nEnd (by decide) (by decide) (by decide)) (fun _ w t4 l6 h6 => ?_)
  exact done _ _ h6 (by omega) (by omega) (Or.inr ⟨c, t4, rfl⟩)
theorem g_check (hb : TB u n) (hN : 2000 ≤ N) : wq (F_X0_check N u) (GS u (fun w => ∃ c j, gItems u c 0 j ∧ j ≤ n ∧ GR u w j 0)) := by
  simp only [F_X0_check, B_X0_check_0]
  rw [wq_pc, wq_bc, q_rewind]
  have h00 : GO u u := ⟨rfl, fun _ _ _ _ _ => rfl⟩
  have h0 : GR u (xI (xI u 8 0) 5 0) 0 0 := ⟨(GO.xI (GO.xI h00 (Or.inr (Or.inr (Or.inr rfl)))) (Or.inl rfl)), (show ((0 : Int32)).toInt = 0 by decide), (show ((0 : Int32)).toInt = 0 by decide)⟩
  refine wq_mono (g_list (P := gItems u) (o2 := 0) hb hN ?_ h0 (by omega)) (fun y w hy => ?_)
  · intro R l v k hk hkn h15 h16 ih
    show wq (B_X0_check_14 N R l v) _
    unfold B_X0_check_14
    refine wq_if.mpr ⟨fun c => (h16 c).elim, fun _ => ?_⟩
    refine gis hb hk hkn (fun c => gend ⟨0, k, ⟨c, rfl⟩, by omega, hkn, hk⟩) (fun c => ?_)
    refine g_type hb hk hkn ?_
    have on : ∀ (w : CSt) (j : Nat), k < j → j ≤ n → gItem u k j → GR u w j 0 → wq (B_X0_check_155 N R l w) (GS u (fun w => ∃ c j, gItems u c k j ∧ k ≤ j ∧ j ≤ n ∧ GR u w j 0)) := by
      intro w j h1 h2 h3 h4
      exact gcons (by omega) (fun c2 j' q => ⟨c2 + 1, c, j, h3, q⟩) (ih j w h1 h2 h4)
    have lt : ∀ {t : Int32}, ¬ isEnd t → tyF u k = t → k < n := fun ht e => GR.lt hb hkn (by rw [e]; exact ht)
    refine wq_if.mpr ⟨fun c1 => gsp (X := gVariables u) (g_variables hb hN hk (lt (nEnd (by decide) (by decide) (by decide)) c1) (by omega)) (fun _ w j x1 x2 x3 h6 => on w j x2 x3 (Or.inl ⟨Or.inl c1, x1⟩) h6), fun _ => ?_⟩
    refine wq_if.mpr ⟨fun c1 => gsp (X := gVariables u) (g_variables hb hN hk (lt (nEnd (by decide) (by decide) (by decide)) c1) (by omega)) (fun _ w j x1 x2 x3 h6 => on w j x2 x3 (Or.inl ⟨Or.inr c1, x1⟩) h6), fun _ => ?_⟩
    refine wq_if.mpr ⟨fun c1 => gsp (X := gPlaced u) (g_placed hb hk (lt (nEnd (by decide) (by decide) (by decide)) c1)) (fun _ w j x1 x2 x3 h6 => on w j x2 x3 (Or.inr (Or.inl ⟨Or.inl c1, x1⟩)) h6), fun _ => ?_⟩
    refine wq_if.mpr ⟨fun c1 => gsp (X := gPlaced u) (g_placed hb hk (lt (nEnd (by decide) (by decide) (by decide)) c1)) (fun _ w j x1 x2 x3 h6 => on w j x2 x3 (Or.inr (Or.inl ⟨Or.inr c1, x1⟩)) h6), fun _ => ?_⟩
    refine wq_if.mpr ⟨fun c1 => ?_, fun _ => ?_⟩
    · refine g_next hb hk (lt (nEnd (by decide) (by decide) (by decide)) c1) (fun _ w h1 => ?_)
      have := lt (nEnd (by decide) (by decide) (by decide)) c1
      exact gsp (g_routine hb hN h1 (by omega)) (fun _ w j x1 x2 x3 h6 => on w j (by omega) x3 (Or.inr (Or.inr (Or.inl ⟨c1, x1⟩))) h6)
    refine wq_if.mpr ⟨fun c1 => gsp (g_uses hb hN hk (lt (nEnd (by decide) (by decide) (by decide)) c1)) (fun _ w j x1 x2 x3 h6 => on w j x2 x3 (Or.inr (Or.inr (Or.inr (Or.inl ⟨c1, x1⟩)))) h6), fun _ => ?_⟩
    refine wq_if.mpr ⟨fun c1 => ?_, fun _ => ?_⟩
    · refine g_next hb hk (lt (nEnd (by decide) (by decide) (by decide)) c1) (fun _ w h1 => ?_)
      have := lt (nEnd (by decide) (by decide) (by decide)) c1
      refine gkd hb h1 (by omega) (fun _ w3 k1 l4 h5 => ?_)
      exact gsp (g_routine hb hN h5 (by omega)) (fun _ w j x1 x2 x3 h6 => on w j (by omega) x3 (Or.inr (Or.inr (Or.inr (Or.inr (Or.inl ⟨c1, k1, x1⟩))))) h6)
    refine wq_if.mpr ⟨fun c1 => gsp (g_cyclic hb hN hk (lt (nEnd (by decide) (by decide) (by decide)) c1)) (fun _ w j x1 x2 x3 h6 => on w j x2 x3 (Or.inr (Or.inr (Or.inr (Or.inr (Or.inr ⟨c1, x1⟩))))) h6), fun _ => ?_⟩
    exact grf hb hk hkn
  · rcases hy with hy | ⟨r, e, c, j, g1, g2, g3, g4⟩
    · exact Or.inl hy
    · exact Or.inr ⟨r, e, c, j, g1, g3, g4⟩
end GItem
