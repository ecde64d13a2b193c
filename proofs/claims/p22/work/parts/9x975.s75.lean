/-! What holds between two calls, along load; a new class and a new reference; place. -/
section JL
variable {v w : CSt} {u x : RSt} {N M m : Nat} {l1 l2 r y : Int32}
theorem km5_n8 (h : km5 v w) : n8s v w := fun p k _ => by
  have h : w.2.2.2.2 = v.2.2.2.2 := h
  exact ⟨by show w.2.2.2.2.2.2.2.2.1 p k = v.2.2.2.2.2.2.2.2.1 p k; rw [h], by show w.2.2.2.2.2.2.2.2.2.1 p k = v.2.2.2.2.2.2.2.2.2.1 p k; rw [h]⟩
theorem load_fr : pq (F_X11_load N l1 v) (fun _ w => cB w 207 = cB v 207 ∧ n8s v w) := by
  unfold F_X11_load
  refine pq_bc (fun r1 v1 e1 => pq_pc ?_)
  have a1 : cB v1 207 = cB v 207 := w5_F_X9_read _ _ e1
  have b1 : n8s v v1 := km5_n8 (m5_F_X9_read _ _ e1)
  refine pq_bh (fun y2 v2 e2 => ?_)
  have a2 : cB v2 207 = cB v 207 := (w5_F_X0_check _ _ e2).trans a1
  have b2 : n8s v v2 := n8s_tr b1 (n8s_tr (show n8s v1 (xI v1 0 0) from fun _ _ _ => ⟨rfl, rfl⟩) (km5_n8 (m5_F_X0_check _ _ e2)))
  refine ⟨fun _ => pq_some ⟨a2, b2⟩, fun b _ => pq_ok (fun _ => pq_bh (fun y3 v3 e3 => ?_))⟩
  have a3 : cB v3 207 = cB v 207 := (w5_F_X3_make _ _ e3).trans a2
  have b3 : n8s v v3 := n8s_tr b2 (h_make _ _ e3)
  refine ⟨fun _ => pq_some ⟨a3, b3⟩, fun b _ => pq_bc (fun r4 v4 e4 => pq_some ?_)⟩
  have j4 := kj_F_X11_install _ _ e4
  exact ⟨j4.2.2.2.1.trans a3, n8s_tr b3 (fun p k _ => ⟨congrFun (congrFun j4.2.2.2.2.1 p) k, congrFun (congrFun j4.2.2.2.2.2 p) k⟩)⟩
/-- load keeps it -/
theorem load_J (hN : 5000000000 ≤ N) (hJ : J5 v u) (h55 : 0 ≤ (u.1 55).toInt ∧ (u.1 55).toInt ≤ 1) (h9 : F_X11_load N l1 v = some (y, w)) (h8 : F_load N l2 u = some (r, x)) : J5 w x := by
  have e0 : (0 : Int32).toInt = 0 := by decide
  obtain ⟨a, b⟩ := load_fr _ _ h9
  have c0 : w.1 0 = 0 := load_c h9
  have r0 : x.1 1 = 0 := load_r h8
  refine ⟨J4_of (m := 0) (fun k hk => ?_) (hJ.1.2.1.fr b) ⟨?_, ?_, by omega, fun p hp => absurd hp (Nat.not_lt_zero p)⟩, load_place hN hJ.1 h55 _ _ h9 _ _ h8⟩
  · rw [a]
    exact hJ.1.1 k hk
  · show (w.1 0).toInt = _
    rw [c0, e0]
    rfl
  · rw [r0, e0]
    rfl
theorem feed_J {l3 l4 l5 : Int32} (hJ : J5 v u) (h9 : F_X11_feed N l1 l2 l3 l4 l5 v = some (y, w)) (h8 : F_feed N l1 l2 l3 l4 l5 u = some (r, x)) : J5 w x := by
  obtain ⟨m, hm⟩ := hJ.1.tp
  obtain ⟨a, b, c⟩ := feed_T hm _ _ h9 _ _ h8
  exact hJ.jd a b c
theorem end_J (hJ : J5 v u) (h9 : F_X11_end N l1 v = some (y, w)) (h8 : F_end N l1 u = some (r, x)) : J5 w x := by
  obtain ⟨m, hm⟩ := hJ.1.tp
  obtain ⟨a, b, c⟩ := end_T hm _ _ h9 _ _ h8
  exact hJ.jd a b c
theorem place_same (hJ : J5 v u) (h8 : F_place N u = some (r, x)) (h9 : F_X11_place M v = some (y, w)) : y = r ∧ True := by
  have h1 : some (u.1 106, sI u 9 0) = some (r, x) := h8
  have h2 : some (cI v 7, v) = some (y, w) := h9
  have e1 := (fst_some h1).1
  have e2 := (fst_some h2).1
  exact ⟨by rw [← e1, ← e2]; exact hJ.2, trivial⟩
end JL
