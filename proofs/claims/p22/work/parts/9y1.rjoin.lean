/-! Worlds taken apart and joined, by their members. -/
section RJoin
variable {D : va_G} {cl : List vw_C} {A A0 : Nat → Prop} {ws ws' w1 w2 wc wr : va_W} {H H0 H1 : Heap} {locs : List Loc}
theorem vaP_mem (h : va_P D cl ws H) (hs : ∀ q, q ∈ ws' → q ∈ ws) : va_P D cl ws' H := by
  intro k q hk
  obtain ⟨i, hi⟩ := List.getElem?_of_mem (hs q (List.mem_of_getElem? hk))
  exact h i q hi
theorem vaD_nd : va_D A ws ↔ (ws.map Prod.fst).Nodup ∧ ∀ q, q ∈ ws → A q.1 := by
  constructor
  · intro h
    refine ⟨?_, fun q hq => ?_⟩
    · rw [List.Nodup, List.pairwise_iff_getElem]
      intro i j hi hj hij he
      rw [List.length_map] at hi hj
      rw [List.getElem_map, List.getElem_map] at he
      have := h.1 i j ws[i] ws[j] (List.getElem?_eq_getElem hi) (List.getElem?_eq_getElem hj) he
      omega
    · obtain ⟨i, hi⟩ := List.getElem?_of_mem hq
      exact h.2 i q hi
  · intro h
    refine ⟨fun i j p q hi hj he => ?_, fun k q hk => h.2 q (List.mem_of_getElem? hk)⟩
    have h1 : (ws.map Prod.fst)[i]? = some p.1 := by rw [List.getElem?_map, hi]; rfl
    have h2 : (ws.map Prod.fst)[j]? = some q.1 := by rw [List.getElem?_map, hj]; rfl
    have hl : i < (ws.map Prod.fst).length := by
      obtain ⟨x, hx⟩ := List.getElem?_eq_some_iff.mp h1
      exact x
    exact (List.getElem?_inj hl h.1).mp (by rw [h1, h2, he])
theorem vaD_perm (h : va_D A ws) (hp : ws.Perm ws') : va_D A ws' := by
  rw [vaD_nd] at h ⊢
  exact ⟨(hp.map Prod.fst).nodup h.1, fun q hq => h.2 q (hp.mem_iff.mpr hq)⟩
theorem vaP_perm (h : va_P D cl ws H) (hp : ws.Perm ws') : va_P D cl ws' H := vaP_mem h (fun q hq => hp.mem_iff.mpr hq)
theorem vaD_left (h : va_D A (w1 ++ w2)) : va_D A w1 := by
  rw [vaD_nd] at h ⊢
  rw [List.map_append, List.nodup_append] at h
  exact ⟨h.1.1, fun q hq => h.2 q (List.mem_append_left _ hq)⟩
theorem vaD_right (h : va_D A (w1 ++ w2)) : va_D A w2 := by
  rw [vaD_nd] at h ⊢
  rw [List.map_append, List.nodup_append] at h
  exact ⟨h.1.2.1, fun q hq => h.2 q (List.mem_append_right _ hq)⟩
theorem va_freeA (hD : va_D A0 (wc ++ wr)) (hS : va_S A0 H0 H locs) (hA : ∀ q, H0.size ≤ q → A0 q) : ∀ q, va_A wc H.size q → A0 q := by
  intro q h
  rcases h with ⟨k, e, h⟩ | h
  · exact (vaD_left hD).2 k (q, e) h
  · exact hA q (Nat.le_trans hS.1 h)
theorem va_joinA (hP : va_P D cl (wc ++ wr) H) (hD : va_D A0 (wc ++ wr)) (hk : ∀ q : Nat, q < H.size → ¬ va_A wc H.size q → H1[q]? = H[q]?) (hF : ∀ q, va_A wc H.size q → A0 q) (hP1 : va_P D cl w1 H1) (hD1 : va_D (va_A wc H.size) w1) : va_P D cl (w1 ++ wr) H1 ∧ va_D A0 (w1 ++ wr) := by
  have apart : ∀ q : Nat × va_E, q ∈ wr → q.1 < H.size ∧ ¬ va_A wc H.size q.1 := by
    intro q hq
    obtain ⟨i, hi⟩ := List.getElem?_of_mem (List.mem_append_right wc hq)
    have hl := (hP i q hi).lt
    refine ⟨hl, fun h => ?_⟩
    rcases h with ⟨k, e, h⟩ | h
    · have nd := (vaD_nd.mp hD).1
      rw [List.map_append, List.nodup_append] at nd
      exact nd.2.2 q.1 (List.mem_map.mpr ⟨(q.1, e), List.mem_of_getElem? h, rfl⟩) q.1 (List.mem_map.mpr ⟨q, hq, rfl⟩) rfl
    · omega
  have hPr : va_P D cl wr H1 := by
    intro k q hq
    obtain ⟨g1, g2⟩ := apart q (List.mem_of_getElem? hq)
    obtain ⟨i, hi⟩ := List.getElem?_of_mem (List.mem_append_right wc (List.mem_of_getElem? hq))
    exact (hP i q hi).kept (hk q.1 g1 g2)
  refine ⟨va_P.app hP1 hPr, ?_⟩
  rw [vaD_nd, List.map_append, List.nodup_append]
  have n1 := vaD_nd.mp hD1
  have n2 := vaD_nd.mp (vaD_right hD)
  refine ⟨⟨n1.1, n2.1, ?_⟩, fun q hq => ?_⟩
  · intro a ha b hb hab
    obtain ⟨x, hx, rfl⟩ := List.mem_map.mp ha
    obtain ⟨y, hy, rfl⟩ := List.mem_map.mp hb
    exact (apart y hy).2 (hab ▸ n1.2 x hx)
  · rcases List.mem_append.mp hq with h | h
    · exact hF q.1 (n1.2 q h)
    · exact n2.2 q h
end RJoin
