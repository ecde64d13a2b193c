/-! A tail of a world that grows by one object a turn: k objects, their addresses in an array of references. -/
/-- G: k objects of class ci before Gold, at the addresses that f tells; what they hold is of the kind P -/
def NGq (ci : Nat) (P : List Value → Prop) (k : Nat) (f : Nat → Option Nat) (Gold G : va_W) : Prop := ∃ (g : Nat → Nat) (c : Nat → List Value), (∀ i, i < k → P (c i)) ∧ (∀ i, f i = if i < k then some (g i) else none) ∧ G = ((List.range k).map (fun i => ((g i, .inr (ci, c i)) : Nat × va_E))).reverse ++ Gold
section RTail
variable {D : va_G} {cl : List vw_C} {A : Nat → Prop} {ws ex G Gold : va_W} {H : Heap} {x : Nat × va_E} {ci k q : Nat} {P : List Value → Prop} {f : Nat → Option Nat} {fs : List Value}
theorem vaP_front {w2 : va_W} (h : va_P D cl (ws ++ w2) H) : va_P D cl (w2 ++ ws) H := vaP_perm h List.perm_append_comm
theorem vaD_front {w2 : va_W} (h : va_D A (ws ++ w2)) : va_D A (w2 ++ ws) := vaD_perm h List.perm_append_comm
theorem vaP_back (h : va_P D cl (x :: (ex ++ G)) H) : va_P D cl (ex ++ (x :: G)) H := vaP_perm h List.perm_middle.symm
theorem vaD_back (h : va_D A (x :: (ex ++ G))) : va_D A (ex ++ (x :: G)) := vaD_perm h List.perm_middle.symm
theorem NGq.zero : NGq ci P 0 (fun _ => none) Gold Gold := ⟨fun _ => 0, fun _ => [], fun i hi => absurd hi (Nat.not_lt_zero i), fun i => by rw [if_neg (Nat.not_lt_zero i)], rfl⟩
theorem NGq.step (h : NGq ci P k f Gold G) (hp : P fs) : NGq ci P (k + 1) (fun i => if i = k then some q else f i) Gold ((q, .inr (ci, fs)) :: G) := by
  obtain ⟨g, c, h1, h2, h3⟩ := h
  refine ⟨fun i => if i = k then q else g i, fun i => if i = k then fs else c i, fun i hi => ?_, fun i => ?_, ?_⟩
  · by_cases e : i = k
    · simp only [e, if_true]; exact hp
    · simp only [if_neg e]; exact h1 i (by omega)
  · by_cases e : i = k
    · subst e
      simp
    · simp only [if_neg e]
      rw [h2 i]
      by_cases d : i < k
      · rw [if_pos d, if_pos (by omega)]
      · rw [if_neg d, if_neg (by omega)]
  · rw [List.range_succ, List.map_append, List.reverse_append, h3]
    have e : (List.range k).map (fun i => (((if i = k then q else g i), .inr (ci, (if i = k then fs else c i))) : Nat × va_E)) = (List.range k).map (fun i => ((g i, .inr (ci, c i)) : Nat × va_E)) := by
      apply List.map_congr_left
      intro i hi
      have : i ≠ k := by have := List.mem_range.mp hi; omega
      rw [if_neg this, if_neg this]
    rw [e]
    simp
end RTail
