/-! load. -/
section PLoad
variable {N : Nat} {u : CSt}
theorem wq_bh {α β : Type} {X : Option (Sum Nat α × CSt)} {h : CSt → Option (β × CSt)} {k : α → CSt → Option (β × CSt)} {S : α → CSt → Prop} {Q : β → CSt → Prop} (hX : wq X (PS S)) (h0 : ∀ w, UC w → wq (h w) Q) (hk : ∀ r w, S r w → wq (k r w) Q) : wq (bh X h k) Q := by
  obtain ⟨y, w, e, hy⟩ := hX
  rcases hy with ⟨e2, hU⟩ | ⟨r, e2, hs⟩
  · subst e2; subst e
    exact h0 w hU
  · subst e2; subst e
    exact hk r w hs
theorem UC.gb {w : CSt} (hU : UC u) (h : GB u w) (h6 : True) : UC w := by
  obtain ⟨⟨h2, h1⟩, t1, t2, t3⟩ := h
  have e : ∀ k, cI w k = w.1 k := fun _ => rfl
  refine ⟨fun k => ?_, ?_⟩
  · by_cases q : k = 5 ∨ k = 6 ∨ k = 7 ∨ k = 8
    · have b := i32_b (cI w k)
      rcases q with q | q | q | q <;> subst q
      · show (0 : Int) ≤ (cI w 5).toInt ∧ (cI w 5).toInt ≤ (1500 : Int); omega
      · show (-2147483648 : Int) ≤ (cI w 6).toInt ∧ (cI w 6).toInt ≤ (2147483647 : Int); omega
      · show (-2147483648 : Int) ≤ (cI w 7).toInt ∧ (cI w 7).toInt ≤ (2147483647 : Int); omega
      · show (-2147483648 : Int) ≤ (cI w 8).toInt ∧ (cI w 8).toInt ≤ (2147483647 : Int); omega
    · have e1 : cI w k = cI u k := h1 k (by omega) (by omega) (by omega) (by omega)
      rw [e1]; exact hU.i k
  · have h3 := hU.2
    show _ ∧ _
    simp only [pI, pA, tI, mI, cR] at h3 ⊢
    rw [h2]; exact h3
theorem GR.uc {w : CSt} {n j o : Nat} (hb : TB u n) (hU : UC u) (h : GR u w j o) (hj : j ≤ n) : UC w := hU.gb (h.gb hb hj) trivial
theorem v_X11_load {l1 : Int32} (hN : 5000000000 ≤ N) (hU : UC u) : wq (F_X11_load N l1 u) (fun _ w => UC w) := by
  have r0 : (0 : Int) ≤ (cI u 0).toInt ∧ (cI u 0).toInt ≤ (6000 : Int) := hU.i 0
  unfold F_X11_load
  refine wq_bcV (v_X9_read hN hU r0) (fun _ u1 U1 F1 E1 => wq_pc.mpr ?_)
  have U2 : UC (xI u1 0 0) := UC.xI (k := 0) U1 (by decide) (by decide)
  have E2 : isEnd (cA (xI u1 0 0) 203 (cI (xI u1 0 0) 4).toNatClampNeg) := E1
  generalize xI u1 0 0 = u2 at U2 E2 ⊢
  have r4 : (0 : Int) ≤ (cI u2 4).toInt ∧ (cI u2 4).toInt ≤ (1500 : Int) := U2.i 4
  have hb : TB u2 (cI u2 4).toInt.toNat := ⟨by omega, by omega, E2⟩
  generalize (cI u2 4).toInt.toNat = n at hb
  have hc := g_check (N := N) hb (by omega)
  have hc2 : wq (F_X0_check N u2) (PS (fun (_ : Int32) w => ∃ c j, gItems u2 c 0 j ∧ j ≤ n ∧ GR u2 w j 0)) := by
    refine wq_mono hc (fun y w hy => ?_)
    rcases hy with ⟨e, h⟩ | ⟨r, e, h⟩
    · exact Or.inl ⟨e, U2.gb h trivial⟩
    · exact Or.inr ⟨r, e, h⟩
  refine wq_bh hc2 (fun w hw => wq_some.mpr hw) (fun _ u3 h3 => ?_)
  obtain ⟨c, j, hD, hj, hR⟩ := h3
  have U3 : UC u3 := hR.uc hb U2 hj
  have e203 : cA u3 203 = cA u2 203 := by show u3.2.2.1 203 = u2.2.2.1 203; rw [hR.1.1]
  have e4 : cI u3 4 = cI u2 4 := hR.1.2 4 (by decide) (by decide) (by decide) (by decide)
  refine pok (U3.r 1) ?_
  refine wq_bh (p_make hb hN U3 e203 e4 (U3.r 1) hD) (fun w hw => wq_some.mpr hw) (fun _ u4 U4 => ?_)
  exact wq_bcV (v_X11_install hN U4) (fun _ u5 U5 _ _ => wq_some.mpr U5)
end PLoad
