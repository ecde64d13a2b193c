/-! The second pass follows the derivation: its state, and a row for each small step. -/
def AD (u : CSt) : Prop := (cI u 12).toInt = (cA u 228 0).toInt + (cA u 228 1).toInt + (cA u 228 2).toInt + (cA u 228 3).toInt + (cA u 228 4).toInt ∧ ∀ k, k < 5 → 0 ≤ (cA u 228 k).toInt ∧ (cA u 228 k).toInt ≤ 400
def PR (u0 : CSt) (n : Nat) (u : CSt) (i : Nat) : Prop := UC u ∧ AD u ∧ cA u 203 = cA u0 203 ∧ cI u 4 = cI u0 4 ∧ (cI u 5).toInt = i ∧ i ≤ n
/-- it refuses, or ends so -/
def PS {β : Type} (S : β → CSt → Prop) : Sum Nat β → CSt → Prop := fun y w => (y = .inl 0 ∧ UC w) ∨ ∃ r, y = .inr r ∧ S r w
def PJ (u0 : CSt) (n j : Nat) : Sum Nat Int32 → CSt → Prop := PS (fun _ w => PR u0 n w j)
section PBase
variable {N n i : Nat} {u0 u w : CSt}
theorem PR.uc (h : PR u0 n u i) : UC u := h.1
theorem PR.tk (hb : TB u0 n) (h : PR u0 n u i) : TK u := by
  obtain ⟨-, -, -, h4, h5, h6⟩ := h
  obtain ⟨b1, b2, -⟩ := hb
  refine ⟨by omega, ?_, ?_⟩
  · rw [h4]; omega
  · rw [h4]; omega
theorem PR.ty (h : PR u0 n u i) : tyH u = tyF u0 i := by
  obtain ⟨-, -, h3, h4, h5, h6⟩ := h
  unfold tyH tyF
  have e2 : (cI u 5).toNatClampNeg = i := by show (cI u 5).toInt.toNat = i; omega
  rw [h3, e2]
theorem PR.lt (hb : TB u0 n) (h : PR u0 n u i) (ht : ¬ isEnd (tyF u0 i)) : i < n := GR.lt hb h.2.2.2.2.2 ht
theorem PR.fr {W : List Nat} (h : PR u0 n u i) (hU : UC w) (hF : FR W u w) (hW : 4 ∉ W ∧ 5 ∉ W ∧ 12 ∉ W ∧ 203 ∉ W ∧ 228 ∉ W) : PR u0 n w i := by
  obtain ⟨-, hA, h3, h4, h5, h6⟩ := h
  obtain ⟨w4, w5, w12, w203, w228⟩ := hW
  have e12 : cI w 12 = cI u 12 := hF.1 12 w12
  have e228 : cA w 228 = cA u 228 := hF.2 228 (Or.inr rfl) w228
  refine ⟨hU, ?_, ?_, ?_, ?_, h6⟩
  · unfold AD; rw [e12, e228]; exact hA
  · rw [hF.2 203 (Or.inl rfl) w203]; exact h3
  · show w.1 4 = _; rw [hF.1 4 w4]; exact h4
  · show (w.1 5).toInt = _; rw [hF.1 5 w5]; exact h5
theorem pvc {α β : Type} {W : List Nat} {X : Option (α × CSt)} {k : α → CSt → Option (β × CSt)} {P : α → CSt → Prop} {Q : β → CSt → Prop} (h : PR u0 n u i) (hX : wq X (VP W P u)) (hW : 4 ∉ W ∧ 5 ∉ W ∧ 12 ∉ W ∧ 203 ∉ W ∧ 228 ∉ W) (kk : ∀ r w, PR u0 n w i → P r w → wq (k r w) Q) : wq (bc X k) Q :=
  wq_bcV hX (fun r w hU hF hP => kk r w (h.fr hU hF hW) hP)
theorem pvt {α β : Type} {W : List Nat} {X : Option (Sum Nat α × CSt)} {k : α → CSt → Option (Sum Nat β × CSt)} {P : α → CSt → Prop} {S : β → CSt → Prop} (h : PR u0 n u i) (hX : wq X (VS W [0] P u)) (hW : 4 ∉ W ∧ 5 ∉ W ∧ 12 ∉ W ∧ 203 ∉ W ∧ 228 ∉ W) (kk : ∀ r w, PR u0 n w i → P r w → wq (k r w) (PS S)) : wq (bt X k) (PS S) :=
  wq_btV hX (fun x w hx U G => Or.inl ⟨by rw [List.mem_singleton.mp hx], U⟩) (fun r w hU hF hP => kk r w (h.fr hU hF hW) hP)
theorem prf {α β : Type} {a b : Int32} {k : Int32 → CSt → Option (Sum Nat β × CSt)} {S : β → CSt → Prop} (hN : 5000000000 ≤ N) (hU : UC u) : wq (bt (F_X9_refuse N a b u) k) (PS S) :=
  wq_btV (v_X9_refuse hN hU) (fun x w hx U G => Or.inl ⟨by rw [List.mem_singleton.mp hx], U⟩) (fun r w _ _ hP => hP.elim)
theorem pbt {α β : Type} {X : Option (Sum Nat α × CSt)} {k : α → CSt → Option (Sum Nat β × CSt)} {S : α → CSt → Prop} {S' : β → CSt → Prop} (hX : wq X (PS S)) (kk : ∀ r w, S r w → wq (k r w) (PS S')) : wq (bt X k) (PS S') := by
  rw [wq_bt]
  refine wq_mono hX (fun y w hy => ?_)
  rcases hy with ⟨e, hb⟩ | ⟨r, e, hs⟩
  · exact ⟨fun x hx => by subst hx; cases e; exact Or.inl ⟨rfl, hb⟩, fun r hr => by subst hr; cases e⟩
  · exact ⟨fun x hx => (by subst hx; cases e), fun r' hr => (by subst hr; cases e; exact kk _ w hs)⟩
theorem pen {β : Type} {r : β} {w : CSt} {S : β → CSt → Prop} (h : S r w) : wq (some (.inr r, w)) (PS S) := wq_some.mpr (Or.inr ⟨r, rfl, h⟩)
theorem pok {β : Type} {c : Prop} {d : Decidable c} {x : Option (β × CSt)} {Q : β → CSt → Prop} (h : c) (hx : wq x Q) : wq (ok c d x) Q := wq_ok.mpr ⟨h, hx⟩
theorem pty {β : Type} {k : Int32 → CSt → Option (β × CSt)} {Q : β → CSt → Prop} (hb : TB u0 n) (h : PR u0 n u i) (kk : wq (k (tyF u0 i) u) Q) : wq (bc (F_X9_type N u) k) Q := by
  rw [wq_bc, q_type (h.tk hb), h.ty]
  exact kk
theorem pis {β : Type} {t : Int32} {A B : CSt → Option (β × CSt)} {Q : β → CSt → Prop} (hb : TB u0 n) (h : PR u0 n u i) (k1 : tyF u0 i = t → wq (B u) Q) (k0 : ¬ tyF u0 i = t → wq (A u) Q) : wq (bc (F_X9_is N t u) fun r w => if r = (0 : Int32) then A w else B w) Q := by
  rw [wq_bc, q_is (h.tk hb), h.ty]
  refine ⟨fun c => ?_, fun c => ?_⟩
  · rw [if_neg (by decide)]; exact k1 c
  · rw [if_pos rfl]; exact k0 c
/-- is, its answer kept -/
theorem pis2 {β : Type} {t : Int32} {k : Int32 → CSt → Option (β × CSt)} {Q : β → CSt → Prop} (hb : TB u0 n) (h : PR u0 n u i) (k1 : tyF u0 i = t → wq (k 1 u) Q) (k0 : ¬ tyF u0 i = t → wq (k 0 u) Q) : wq (bc (F_X9_is N t u) k) Q := by
  rw [wq_bc, q_is (h.tk hb), h.ty]
  exact ⟨k1, k0⟩
theorem PR.step (hb : TB u0 n) (h : PR u0 n u i) (hi : i < n) : PR u0 n (xI u 5 (cI u 5 + 1)) (i + 1) ∧ ¬ cI u 4 ≤ cI u 5 := by
  have ht := h.tk hb
  obtain ⟨hU, hA, h3, h4, h5, h6⟩ := h
  have hc : ¬ cI u 4 ≤ cI u 5 := by
    intro q
    have q1 := Int32.le_iff_toInt_le.mp q
    have h7 := hb.1
    rw [h4] at q1
    omega
  have h9 := (ht.step hc).2
  have h9' : (cI u 5 + 1).toInt = (cI u 5).toInt + 1 := h9
  have b2 := hb.2.1
  refine ⟨⟨UC.xI (k := 5) hU (show (0 : Int) ≤ (cI u 5 + 1).toInt by omega) (show (cI u 5 + 1).toInt ≤ (1500 : Int) by omega), hA, h3, h4, ?_, by omega⟩, hc⟩
  show (cI u 5 + 1).toInt = _
  omega
theorem pnx {β : Type} {k : Int32 → CSt → Option (β × CSt)} {Q : β → CSt → Prop} (hb : TB u0 n) (h : PR u0 n u i) (ht : ¬ isEnd (tyF u0 i)) (kk : ∀ r w, w.2 = u.2 → PR u0 n w (i + 1) → wq (k r w) Q) : wq (bc (F_X9_next N u) k) Q := by
  rw [wq_bc, q_next]
  obtain ⟨h1, hc⟩ := h.step hb (h.lt hb ht)
  exact ⟨fun q => absurd q hc, fun _ => kk _ _ rfl h1⟩
theorem pah {β : Type} {a : Int32} {m : Nat} {k : Int32 → CSt → Option (β × CSt)} {Q : β → CSt → Prop} (hb : TB u0 n) (h : PR u0 n u i) (ha : a.toInt = m) (hm : i + m ≤ n) (kk : wq (k (tyF u0 (i + m)) u) Q) : wq (bc (F_X9_typeAhead N a u) k) Q := by
  obtain ⟨hU, hA, h3, h4, h5, h6⟩ := h
  have b1 := hb.1
  have b2 := hb.2.1
  have e1 : (cI u 5 + a).toInt = (i : Int) + m := by rw [tI_add (by omega) (by omega)]; omega
  have e5 : cA u 203 (cI u 5 + a).toNatClampNeg = tyF u0 (i + m) := by
    have q2 : (cI u 5 + a).toNatClampNeg = i + m := by show (cI u 5 + a).toInt.toNat = i + m; omega
    rw [h3, q2]; rfl
  rw [wq_bc, q_typeAhead (fun _ => vin_iff.mpr ⟨by omega, by omega⟩)]
  refine ⟨fun q => ?_, fun _ => ?_⟩
  · have q1 := Int32.lt_iff_toInt_lt.mp q
    rw [h4] at q1
    omega
  · rw [e5]; exact kk
theorem nE {t s : Int32} (h : t = s) (h0 : ¬ s = 0) (h1 : ¬ s = 131) (h2 : ¬ s = 132) : ¬ isEnd t := by rw [h]; exact nEnd h0 h1 h2
theorem gK.ne {i : Nat} (h : gK u0 i) : ¬ isEnd (tyF u0 i) := by
  obtain ⟨c, c2⟩ := h
  rintro (q | q | q) <;> (rw [q] at c c2; revert c c2; decide)
theorem ptn {β : Type} {k : Int64 → CSt → Option (Sum Nat β × CSt)} {S : β → CSt → Prop} (hb : TB u0 n) (hN : 5000000000 ≤ N) (h : PR u0 n u i) (ht : ¬ isEnd (tyF u0 i)) (kk : ∀ r w, w.2 = u.2 → PR u0 n w (i + 1) → wq (k r w) (PS S)) : wq (bt (F_X9_takeNumber N u) k) (PS S) := by
  refine pbt (S := fun (r : Int64) w => w.2 = u.2 ∧ PR u0 n w (i + 1)) ?_ (fun r w hw => kk r w hw.1 hw.2)
  have hk := h.tk hb
  unfold F_X9_takeNumber B_X9_takeNumber_0
  refine wq_rd.mpr ⟨hk.inn, ?_⟩
  refine wq_if.mpr ⟨fun _ => ?_, fun _ => ?_⟩
  · unfold B_X9_takeNumber_28
    refine wq_rd.mpr ⟨hk.inn, ?_⟩
    exact pnx hb h ht (fun _ w hw h1 => pen ⟨hw, h1⟩)
  · refine wq_rd.mpr ⟨hk.inn, ?_⟩
    exact prf (α := Unit) hN h.uc
theorem ptb {β : Type} {a b : Int64} {k : Int64 → CSt → Option (Sum Nat β × CSt)} {S : β → CSt → Prop} (hb : TB u0 n) (hN : 5000000000 ≤ N) (h : PR u0 n u i) (ht : ¬ isEnd (tyF u0 i)) (kk : ∀ r w, w.2 = u.2 → PR u0 n w (i + 1) → a ≤ r → r ≤ b → wq (k r w) (PS S)) : wq (bt (F_X9_takeBounded N a b u) k) (PS S) := by
  refine pbt (S := fun (r : Int64) w => w.2 = u.2 ∧ PR u0 n w (i + 1) ∧ a ≤ r ∧ r ≤ b) ?_ (fun r w hw => kk r w hw.1 hw.2.1 hw.2.2.1 hw.2.2.2)
  have hk := h.tk hb
  have bad : ∀ v, wq (B_X9_takeBounded_39 N v u) (PS (fun (r : Int64) w => w.2 = u.2 ∧ PR u0 n w (i + 1) ∧ a ≤ r ∧ r ≤ b)) := by
    intro v
    unfold B_X9_takeBounded_39
    refine wq_rd.mpr ⟨hk.inn, ?_⟩
    exact prf (α := Unit) hN h.uc
  unfold F_X9_takeBounded B_X9_takeBounded_0
  refine wq_rd.mpr ⟨hk.inn, ?_⟩
  refine wq_rd.mpr ⟨hk.inn, ?_⟩
  refine wq_if.mpr ⟨fun _ => ?_, fun _ => bad _⟩
  refine wq_if.mpr ⟨fun _ => bad _, fun c1 => ?_⟩
  refine wq_if.mpr ⟨fun c2 => ?_, fun _ => bad _⟩
  unfold B_X9_takeBounded_53
  exact pnx hb h ht (fun _ w hw h1 => pen ⟨hw, h1, Int64.not_lt.mp c1, c2⟩)
theorem ptkd {β : Type} {k : Int32 → CSt → Option (β × CSt)} {Q : β → CSt → Prop} (hb : TB u0 n) (h : PR u0 n u i) (ht : gK u0 i) (kk : ∀ r w, w.2 = u.2 → PR u0 n w (i + 1) → 0 ≤ r.toInt → r.toInt ≤ 4 → wq (k r w) Q) : wq (bc (F_X9_takeKind N u) k) Q := by
  have hk := h.tk hb
  have he : cA u 203 (cI u 5).toNatClampNeg = tyF u0 i := h.ty
  rw [wq_bc]
  unfold F_X9_takeKind B_X9_takeKind_0
  refine wq_rd.mpr ⟨hk.inn, ?_⟩
  refine pnx hb h ht.ne (fun _ w hw h1 => wq_some.mpr ?_)
  rw [he]
  have k1 := Int32.le_iff_toInt_le.mp ht.1
  have k2 := Int32.le_iff_toInt_le.mp ht.2
  have e12 : (12 : Int32).toInt = 12 := by decide
  have e16 : (16 : Int32).toInt = 16 := by decide
  have e := tI_sb (tyF u0 i) 12
  refine kk _ w hw h1 ?_ ?_ <;> omega
end PBase
