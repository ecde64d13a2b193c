/-! Both second passes side by side. jx X Y A: if the class's program X and the reference's Y end, both have a FAULT at one place, or A holds. -/
def OFx {β γ : Type} (A : β → CSt → γ → RSt → Prop) (y : Sum Nat β) (w : CSt) (r : γ) (x : RSt) : Prop := (y = .inl 0 ∧ ¬ x.1 67 = 0 ∧ x.1 68 = cI w 7) ∨ (∃ b, y = .inr b ∧ A b w r x)
def jx {β γ : Type} (X : Option (Sum Nat β × CSt)) (Y : Option (γ × RSt)) (A : β → CSt → γ → RSt → Prop) : Prop := pq X (fun y w => pp Y (fun r x => OFx A y w r x))
section JXs
variable {β γ β' γ' : Type} {A : β → CSt → γ → RSt → Prop} {X : Option (Sum Nat β × CSt)} {Y : Option (γ × RSt)}
theorem jx_r (h : pp Y (fun r x => pq X (fun y w => OFx A y w r x))) : jx X Y A := fun y w e r x e' => h r x e' y w e
theorem jx_l (h : jx X Y A) : pp Y (fun r x => pq X (fun y w => OFx A y w r x)) := fun r x e y w e' => h y w e' r x e
theorem OFx_m {A2 : β → CSt → γ → RSt → Prop} {y : Sum Nat β} {w : CSt} {r : γ} {x : RSt} (hA : ∀ b, A b w r x → A2 b w r x) (h : OFx A y w r x) : OFx A2 y w r x := by
  rcases h with h | ⟨b, h1, h2⟩
  · exact Or.inl h
  · exact Or.inr ⟨b, h1, hA b h2⟩
theorem jx_m {A2 : β → CSt → γ → RSt → Prop} (h : jx X Y A) (hA : ∀ b w r x, A b w r x → A2 b w r x) : jx X Y A2 := fun y w e r x e' => OFx_m (fun b => hA b w r x) (h y w e r x e')
theorem jx_some {b : β} {w : CSt} {r : γ} {x : RSt} (h : A b w r x) : jx (some (.inr b, w)) (some (r, x)) A := pq_some (pp_some (Or.inr ⟨b, rfl, h⟩))
theorem jx_no : jx (none : Option (Sum Nat β × CSt)) Y A := fun _ _ e => nomatch e
theorem jx_on : jx X (none : Option (γ × RSt)) A := fun _ _ _ _ _ e => nomatch e
theorem jx_bt {A' : β' → CSt → γ' → RSt → Prop} {k : β → CSt → Option (Sum Nat β' × CSt)} {k' : γ → RSt → Option (γ' × RSt)} (hX : jx X Y A) (kk : ∀ b w r x, A b w r x → jx (k b w) (k' r x) A') (hs : ∀ r x, KP (k' r x) x) : jx (bt X k) (bn Y k') A' := by
  intro y w e r x e'
  obtain ⟨y1, w1, e1, he⟩ := bt_of e
  obtain ⟨r1, x1, e2, e3⟩ := bn_of e'
  rcases hX y1 w1 e1 r1 x1 e2 with ⟨h1, h2, h3⟩ | ⟨b, h1, h2⟩
  · obtain ⟨c1, c2⟩ := (hs r1 x1 r x e3).2.2.2 h2
    rcases he with ⟨z, g1, g2, g3⟩ | ⟨z, g1, g2⟩
    · rw [h1] at g1
      cases g1
      subst g3
      exact Or.inl ⟨g2, by rw [c1]; exact h2, by rw [c2]; exact h3⟩
    · rw [h1] at g1
      cases g1
  · rcases he with ⟨z, g1, g2, g3⟩ | ⟨z, g1, g2⟩
    · rw [h1] at g1
      cases g1
    · rw [h1] at g1
      cases g1
      exact kk b w1 r1 x1 h2 y w g2 r x e3
/-- the class alone goes on -/
theorem jx_btp {A' : β' → CSt → γ → RSt → Prop} {k : β → CSt → Option (Sum Nat β' × CSt)} (hX : jx X Y A) (kk : ∀ b w r x, A b w r x → pq (k b w) (fun y w' => OFx A' y w' r x)) : jx (bt X k) Y A' := by
  intro y w e r x e'
  obtain ⟨y1, w1, e1, he⟩ := bt_of e
  rcases hX y1 w1 e1 r x e' with ⟨h1, h2, h3⟩ | ⟨b, h1, h2⟩
  · rcases he with ⟨z, g1, g2, g3⟩ | ⟨z, g1, g2⟩
    · rw [h1] at g1
      cases g1
      subst g3
      exact Or.inl ⟨g2, h2, h3⟩
    · rw [h1] at g1
      cases g1
  · rcases he with ⟨z, g1, g2, g3⟩ | ⟨z, g1, g2⟩
    · rw [h1] at g1
      cases g1
    · rw [h1] at g1
      cases g1
      exact kk b w1 r x h2 y w g2
theorem jx_btl {A' : β' → CSt → γ → RSt → Prop} {f : β → CSt → β'} (hX : jx X Y A) (h : ∀ b w r x, A b w r x → A' (f b w) w r x) : jx (bt X fun b w => some (.inr (f b w), w)) Y A' := jx_btp hX (fun b w r x ha => pq_some (Or.inr ⟨_, rfl, h b w r x ha⟩))
/-- the reference alone goes on -/
theorem jx_bnp {A' : β → CSt → γ' → RSt → Prop} {k' : γ → RSt → Option (γ' × RSt)} (hX : jx X Y A) (kk : ∀ b w r x, A b w r x → pp (k' r x) (fun r' x' => A' b w r' x')) (hs : ∀ r x, KP (k' r x) x) : jx X (bn Y k') A' := by
  intro y w e r x e'
  obtain ⟨r1, x1, e2, e3⟩ := bn_of e'
  rcases hX y w e r1 x1 e2 with ⟨h1, h2, h3⟩ | ⟨b, h1, h2⟩
  · obtain ⟨c1, c2⟩ := (hs r1 x1 r x e3).2.2.2 h2
    exact Or.inl ⟨h1, by rw [c1]; exact h2, by rw [c2]; exact h3⟩
  · exact Or.inr ⟨b, h1, kk b w r1 x1 h2 r x e3⟩
theorem pq_bt {α : Type} {X : Option (Sum Nat α × CSt)} {k : α → CSt → Option (Sum Nat β × CSt)} {Q : Sum Nat β → CSt → Prop} (h : pq X (fun y w => (∀ e, y = .inl e → Q (.inl e) w) ∧ (∀ b, y = .inr b → pq (k b w) Q))) : pq (bt X k) Q := by
  intro y w e
  obtain ⟨y1, w1, e1, he⟩ := bt_of e
  have := h y1 w1 e1
  rcases he with ⟨x, h1, h2, h3⟩ | ⟨r, h1, h2⟩
  · subst h3
    rw [h2]
    exact this.1 x h1
  · exact this.2 r h1 y w h2
theorem pq_ok {α : Type} {P : Prop} {d : Decidable P} {x : Option (α × CSt)} {Q : α → CSt → Prop} (h : P → pq x Q) : pq (ok P d x) Q := fun r w e => h (ok_of e).1 r w (ok_of e).2
theorem pq_ix {α : Type} {m : Nat} {i : Int32} {x : Option (α × CSt)} {Q : α → CSt → Prop} (h : vp_in i m → pq x Q) : pq (ix m i x) Q := fun r w e => h (ix_of e).1 r w (ix_of e).2
theorem pq_zr {α : Type} {c : Int32} {x : Option (α × CSt)} {Q : α → CSt → Prop} (h : pq x Q) : pq (zr c x) Q := fun r w e => h r w (zr_of e).2
theorem pq_refuse {α : Type} {N : Nat} {a p : Int32} {v : CSt} {k : Int32 → CSt → Option (Sum Nat α × CSt)} {Q : Sum Nat α → CSt → Prop} (h : Q (.inl 0) (xI (xI v 6 a) 7 p)) : pq (bt (F_X9_refuse N a p v) k) Q := pq_some h
/-- the class refuses here -/
theorem jx_ref {N : Nat} {a p : Int32} {v : CSt} {k : Int32 → CSt → Option (Sum Nat β × CSt)} (hY : pp Y (fun _ x => ¬ x.1 67 = 0 ∧ x.1 68 = p)) : jx (bt (F_X9_refuse N a p v) k) Y A := pq_refuse (pp_m hY (fun _ _ h => Or.inl ⟨rfl, h.1, h.2⟩))
theorem pp_flt {u : RSt} {p : Int32} (hK : KP Y u) (h1 : ¬ u.1 67 = 0) (h2 : u.1 68 = p) : pp Y (fun _ x => ¬ x.1 67 = 0 ∧ x.1 68 = p) := by
  intro r x e
  obtain ⟨c1, c2⟩ := (hK r x e).2.2.2 h1
  exact ⟨by rw [c1]; exact h1, by rw [c2]; exact h2⟩
end JXs
/-! outcomes that went through -/
section OutR
variable {ty : Nat → Int32} {c : Nat → Prop} {A B : Rl} {i j : Nat} {b : Prop} {t : Int32}
theorem oS_r (h : oS A B i (.inr j)) : ∃ k, A i (.inr k) ∧ B k (.inr j) := by
  rcases h with ⟨k, h1, h2⟩ | ⟨p, h1, h2⟩
  · exact ⟨k, h1, h2⟩
  · cases h2
theorem oT_r (h : oT ty t i (.inr j)) : ty i = t ∧ j = i + 1 := by
  rcases h with ⟨h1, h2⟩ | ⟨h1, h2⟩
  · cases h2; exact ⟨h1, rfl⟩
  · cases h2
theorem oP_r (h : oP ty b t i (.inr j)) : ty i = t ∧ b ∧ j = i + 1 := by
  rcases h with ⟨h1, h2⟩ | ⟨h1, h2⟩
  · cases h2; exact ⟨h1.1, h1.2, rfl⟩
  · cases h2
theorem oPo_r (h : oPo ty b i (.inr j)) : b ∧ j = i + 1 := ⟨(oP_r h).2.1, (oP_r h).2.2⟩
theorem oK_r (h : oKd ty i (.inr j)) : (12 ≤ ty i ∧ ty i ≤ 16) ∧ j = i + 1 := by
  rcases h with ⟨h1, h2⟩ | ⟨h1, h2⟩
  · cases h2; exact ⟨h1, rfl⟩
  · cases h2
theorem oE_r (h : oE i (.inr j)) : j = i := by cases h; rfl
theorem oR_r (h : oR i (.inr j)) : False := by cases h
theorem oF_r (h : oF c A B i (.inr j)) : (c i ∧ A i (.inr j)) ∨ (¬ c i ∧ B i (.inr j)) := h
theorem oW_r (h : oW c A B i (.inr j)) : (¬ c i ∧ B i (.inr j)) ∨ (c i ∧ ∃ k, A i (.inr k) ∧ oW c A B k (.inr j)) := by
  rcases oW_i h with h | ⟨h1, h2⟩
  · exact Or.inl h
  · exact Or.inr ⟨h1, oS_r h2⟩
end OutR
