/-! The first passes of both end alike. -/
section Pass1
variable {N n : Nat} {v : CSt} {u : RSt}
theorem pass1 (hc : CUT v u) (hN : 2000 ≤ N) (h0 : u.1 69 = 0) (h1 : u.1 67 = 0) (h2 : u.1 65 = 0) (h3 : u.1 66 = 0) : wq (F_X0_check N v) (fun y w => pp (F_text N u) (fun _ x => (y = .inl 0 ∧ ¬ x.1 67 = 0 ∧ x.1 67 = cI w 6 ∧ x.1 68 = cI w 7) ∨ (∃ r j, y = .inr r ∧ x.1 67 = 0 ∧ dText (tyF v) 0 (.inr j)))) := by
  obtain ⟨n, hb, hT, hk, hp⟩ := hc
  have z0 : (0 : Int32).toInt = 0 := by decide
  have hq : RQ (u.2.2.1 2) (u.2.2.1 3) u 0 0 := ⟨rfl, rfl, h0, h1, by rw [h2]; exact z0, by rw [h3]; exact z0⟩
  have pl : ∀ p, p ≤ n → cA v 204 p = u.2.2.1 3 p := by
    intro p hpn
    rcases Nat.lt_or_eq_of_le hpn with z | z
    · exact (hk p z).1
    · rw [z]; exact hp
  refine wq_mono (oc_check hb hN) (fun y w hy => ?_)
  refine pp_m (r_text hT hq (Nat.zero_le n)) (fun _ x hx => ?_)
  rcases hy with ⟨p, d, hpn, e, -, g1, g2⟩ | ⟨r, j, d, hj, e, g⟩ <;> rcases hx with ⟨p', d', hpn', k1, k2⟩ | ⟨j', d', hj', k⟩
  · have := dt_Text 0 _ _ d d'
    cases this
    have s0 := hT.so hpn (show ∀ p ∈ prs, (p.2 = 0 ↔ p.1 = 131) by decide +kernel)
    refine Or.inl ⟨e, ?_, ?_, ?_⟩
    · rw [k1]; split <;> decide
    · rw [k1, g1]
      unfold mfF
      by_cases q : tyF v p = 131
      · rw [if_pos q, if_pos (s0.mpr q)]
      · rw [if_neg q, if_neg (fun z => q (s0.mp z))]
    · rw [k2, g2, pl p hpn]
  · cases dt_Text 0 _ _ d d'
  · cases dt_Text 0 _ _ d d'
  · exact Or.inr ⟨r, j, e, k.2.2.2.1, d⟩
end Pass1
