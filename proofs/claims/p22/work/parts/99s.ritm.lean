/-! What the items keep: the other side, the tables, the numbers. -/
/-- how wide a side is in a table of both sides -/
def zn (k : Nat) : Nat := if k = 19 ∨ k = 27 ∨ k = 36 ∨ k = 37 ∨ k = 42 ∨ k = 48 ∨ k = 54 then 1 else if k = 28 ∨ k = 29 ∨ k = 30 ∨ k = 31 ∨ k = 32 ∨ k = 33 ∨ k = 38 ∨ k = 39 then 24 else if k = 43 ∨ k = 44 ∨ k = 45 then 8 else if k = 49 ∨ k = 50 ∨ k = 51 then 8000 else 0
/-- rows that may change anywhere -/
def zf (k : Nat) : Prop := k ∈ [10, 11, 12, 13, 14, 15, 20, 21, 22, 23, 59, 60, 64, 75, 76]
def zl (k : Nat) : Prop := k ∈ [16, 17, 18, 24, 25, 26, 34, 35, 40, 41, 46, 47, 52, 53, 57, 58]
def zi (k : Nat) : Prop := k ∈ [61, 62, 63, 65, 66, 67, 68, 70, 71, 72, 73, 74, 78, 80, 81]
/-- areas and sizes of variables, beside VOK -/
def SRT (u : RSt) : Prop := ∀ x, 0 ≤ (u.2.2.1 12 x).toInt ∧ (1 < (u.2.2.1 12 x).toInt → u.2.2.1 11 x = 1)
/-- what the items leave as it was -/
def FRI (u w : RSt) : Prop := (∀ k, ¬ zi k → w.1 k = u.1 k) ∧ (¬ u.1 67 = 0 → ¬ w.1 67 = 0) ∧ (∀ k j, ¬ zf k → (zn k = 0 ∨ j / zn k ≠ toN u) → w.2.2.1 k j = u.2.2.1 k j) ∧ (∀ k, ¬ zl k → w.2.2.2 k = u.2.2.2 k) ∧ (SRT u → SRT w) ∧ ((u.2.2.1 54 (toN u)).toInt ≤ 8000 → (w.2.2.1 54 (toN u)).toInt ≤ 8000)
def CNT (u : RSt) : Prop := ∀ j, (0 ≤ (u.2.2.1 19 j).toInt ∧ (u.2.2.1 19 j).toInt ≤ 160) ∧ (0 ≤ (u.2.2.1 27 j).toInt ∧ (u.2.2.1 27 j).toInt ≤ 160) ∧ (0 ≤ (u.2.2.1 36 j).toInt ∧ (u.2.2.1 36 j).toInt ≤ 8) ∧ (0 ≤ (u.2.2.1 37 j).toInt ∧ (u.2.2.1 37 j).toInt ≤ 16) ∧ (0 ≤ (u.2.2.1 42 j).toInt ∧ (u.2.2.1 42 j).toInt ≤ 24) ∧ (0 ≤ (u.2.2.1 48 j).toInt ∧ (u.2.2.1 48 j).toInt ≤ 8)
def SLT (u : RSt) : Prop := ∀ x, 0 ≤ (u.2.2.1 20 x).toInt ∧ (u.2.2.1 20 x).toInt ≤ 4 ∧ 0 ≤ (u.2.2.1 23 x).toInt ∧ 0 ≤ (u.2.2.1 21 x).toInt ∧ (u.2.2.1 23 x).toInt + (u.2.2.1 21 x).toInt ≤ 100 ∧ (u.2.2.1 23 x).toInt ≤ 99
def PRT (u : RSt) : Prop := ∀ p, 0 ≤ (u.2.2.1 28 p).toInt ∧ 0 ≤ (u.2.2.1 29 p).toInt ∧ (u.2.2.1 28 p).toInt + (u.2.2.1 29 p).toInt ≤ 160 ∧ 0 ≤ (u.2.2.1 30 p).toInt ∧ (u.2.2.1 30 p).toInt ≤ 6 ∧ (u.2.2.1 30 p).toInt ≤ (u.2.2.1 29 p).toInt ∧ 0 ≤ (u.2.2.1 33 p).toInt ∧ (u.2.2.1 33 p).toInt ≤ 4
def INT (u : RSt) : Prop := ∀ i, 0 ≤ (u.2.2.1 38 i).toInt ∧ (u.2.2.1 38 i).toInt < 48 ∧ 0 ≤ (u.2.2.1 39 i).toInt ∧ (u.2.2.1 39 i).toInt ≤ 2000
/-- the tables of both sides -/
def TB0 (u : RSt) : Prop := (∀ x, VOK u x) ∧ SLT u ∧ PRT u ∧ INT u ∧ CNT u ∧ (∀ p, 0 ≤ (u.2.2.1 31 p).toInt ∧ (u.2.2.1 31 p).toInt ≤ 100) ∧ (u.1 61).toInt ≤ 180 ∧ 0 ≤ (u.1 72).toInt ∧ 0 ≤ (u.1 56).toInt ∧ (u.1 56).toInt ≤ 1
def GKS (u : RSt) : Prop := ∀ g : Nat, (g : Int) < (u.1 61).toInt → GOK u g ∧ (u.2.2.1 59 g = 3 → (u.2.2.1 60 g).toInt < (u.2.2.1 36 (toN u)).toInt)
/-- the sizes of n slots from x on -/
def ssz (u : RSt) (x : Nat) : Nat → Int
  | 0 => 0
  | n + 1 => ssz u x n + (u.2.2.1 21 (x + n)).toInt
def BLK (u : RSt) : Prop := ∀ b : Nat, (b : Int) < (u.2.2.1 36 (toN u)).toInt → (u.2.2.1 28 (24 * toN u + b)).toInt + (u.2.2.1 29 (24 * toN u + b)).toInt ≤ (u.2.2.1 27 (toN u)).toInt ∧ (u.2.2.1 31 (24 * toN u + b)).toInt = ssz u (160 * toN u + (u.2.2.1 28 (24 * toN u + b)).toInt.toNat) (u.2.2.1 29 (24 * toN u + b)).toInt.toNat
def KNS (u : RSt) : Prop := (∀ k, k < 5 → 0 ≤ (u.2.2.1 64 k).toInt ∧ (u.2.2.1 64 k).toInt ≤ 400) ∧ (u.1 63).toInt = (u.2.2.1 64 0).toInt + (u.2.2.1 64 1).toInt + (u.2.2.1 64 2).toInt + (u.2.2.1 64 3).toInt + (u.2.2.1 64 4).toInt
def NUQ (u : RSt) : Prop := 0 ≤ (u.1 61).toInt ∧ (u.1 61).toInt ≤ (u.1 62).toInt + 15 ∧ (u.1 62).toInt ≤ 160 ∧ (u.2.2.1 19 (toN u)).toInt ≤ (u.1 62).toInt ∧ (u.2.2.1 27 (toN u)).toInt ≤ (u.1 62).toInt ∧ KNS u ∧ BLK u
/-- instances are of blocks of their side -/
def INB (u : RSt) : Prop := ∀ i : Nat, (i : Int) < (u.2.2.1 42 (toN u)).toInt → ∃ b : Nat, (b : Int) < (u.2.2.1 36 (toN u)).toInt ∧ (u.2.2.1 38 (24 * toN u + i)).toInt = 24 * toN u + b
/-- a task begins at e -/
def TE (u : RSt) (H : Nat → Sh) (e : Int32) : Prop := ∃ p : Nat, e.toInt = p ∧ bsR u ≤ p ∧ p < posR u ∧ (H p).1 = 0 ∧ (H p).2.2 = []
/-- code up to here, with the entries -/
def CDH (u : RSt) (H : Nat → Sh) : Prop := (∀ pc, bsR u ≤ pc → pc < posR u → LC u H (bsR u) (posR u - 1) pc) ∧ (∀ f : Nat, (f : Int) < (u.2.2.1 37 (toN u)).toInt → ENT u H (bsR u) (posR u) (u.2.2.1 32 (24 * toN u + 8 + f)) 2) ∧ (∀ b : Nat, (b : Int) < (u.2.2.1 36 (toN u)).toInt → ENT u H (bsR u) (posR u) (u.2.2.1 32 (24 * toN u + b)) 1) ∧ (∀ k : Nat, (k : Int) < (u.2.2.1 48 (toN u)).toInt → TE u H (u.2.2.1 45 (8 * toN u + k)) ∧ 1 ≤ (u.2.2.1 43 (8 * toN u + k)).toInt)
def CDQ (u : RSt) : Prop := 0 ≤ (u.2.2.1 54 (toN u)).toInt ∧ (u.2.2.1 54 (toN u)).toInt ≤ 5 * kP u ∧ INB u ∧ ∃ H, CDH u H
/-- between two items -/
def IVQ (u : RSt) (T : Nat) (o : Int) : Prop := TK2 u T ∧ TB0 u ∧ (u.1 67 = 0 → opn u = o) ∧ (act u → GKS u ∧ NUQ u ∧ CDQ u)
section RItm
variable {u v w : RSt} {T N k j : Nat} {o : Int} {x l1 l2 l3 l4 l5 l6 : Int32}
theorem SRT.of (h : SRT u) (h11 : w.2.2.1 11 = u.2.2.1 11) (h12 : w.2.2.1 12 = u.2.2.1 12) : SRT w := by
  unfold SRT
  rw [h11, h12]
  exact h
theorem FRI.rf : FRI u u := ⟨fun _ _ => rfl, fun h => h, fun _ _ _ _ => rfl, fun _ _ => rfl, fun h => h, fun h => h⟩
theorem FRI.to (h : FRI u w) : toN w = toN u := by unfold toN; rw [h.1 56 (by unfold zi; decide)]
theorem FRI.tr (h : FRI u v) (h2 : FRI v w) : FRI u w :=
  ⟨fun k hk => (h2.1 k hk).trans (h.1 k hk), fun q => h2.2.1 (h.2.1 q), fun k j hk hj => (h2.2.2.1 k j hk (by rw [h.to]; exact hj)).trans (h.2.2.1 k j hk hj), fun k hk => (h2.2.2.2.1 k hk).trans (h.2.2.2.1 k hk), fun q => h2.2.2.2.2.1 (h.2.2.2.2.1 q), fun q => by have z := h2.2.2.2.2.2; rw [h.to] at z; exact z (h.2.2.2.2.2 q)⟩
theorem FRI.z (h : FRI u w) (hz : w.1 67 = 0) : u.1 67 = 0 := Classical.byContradiction fun q => h.2.1 q hz
theorem FRI.ac (h : FRI u w) (ha : act w) : act u := ⟨by rw [← h.1 69 (by unfold zi; decide)]; exact ha.1, h.z ha.2⟩
theorem FRI.ef (h : EFr u w) : FRI u w := by
  obtain ⟨h1, h2, h3, h4, h5, h6, h7⟩ := h
  refine ⟨fun k hk => h1 k (fun z => hk ?_), h6, fun k j hk hj => ?_, fun k hk => h3 k (fun z => hk ?_), fun q => q.of (h2 11 (by decide)) (h2 12 (by decide)), h7⟩
  · unfold zi
    simp only [List.mem_cons, List.not_mem_nil, or_false] at z ⊢
    omega
  · by_cases c : k ∈ [49, 50, 51, 54, 75, 76]
    · have hk2 : k ≠ 75 ∧ k ≠ 76 := ⟨fun z => hk (by rw [z]; unfold zf; decide), fun z => hk (by rw [z]; unfold zf; decide)⟩
      have c2 : k = 49 ∨ k = 50 ∨ k = 51 ∨ k = 54 := by
        simp only [List.mem_cons, List.not_mem_nil, or_false] at c
        omega
      rcases c2 with rfl | rfl | rfl | rfl
      · have q : j / 8000 ≠ toN u := hj.elim (fun z => absurd z (by decide)) id
        exact (h5 j (by unfold bsR; omega)).1
      · have q : j / 8000 ≠ toN u := hj.elim (fun z => absurd z (by decide)) id
        exact (h5 j (by unfold bsR; omega)).2.1
      · have q : j / 8000 ≠ toN u := hj.elim (fun z => absurd z (by decide)) id
        exact (h5 j (by unfold bsR; omega)).2.2
      · have q : j / 1 ≠ toN u := hj.elim (fun z => absurd z (by decide)) id
        exact h4 j (by rw [Nat.div_one] at q; exact q)
    · rw [h2 k c]
  · unfold zl
    simp only [List.mem_cons, List.not_mem_nil, or_false] at z ⊢
    omega
theorem FRI.lf (h : LF u w) : FRI u w := FRI.ef h.ef
theorem FRI.sI (h : FRI u w) (hk : zi k) (h7 : k ≠ 67) : FRI u (sI w k x) := by
  refine ⟨fun j hj => ?_, fun q => ?_, h.2.2.1, h.2.2.2⟩
  · rw [sI_1, if_neg (fun z => hj (by rw [z]; exact hk))]
    exact h.1 j hj
  · rw [sI_1, if_neg (fun z => h7 z.symm)]
    exact h.2.1 q
theorem FRI.sA (h : FRI u w) (hk : zf k ∨ (zn k ≠ 0 ∧ j / zn k = toN u)) (hn : k ≠ 11 ∧ k ≠ 12 ∧ k ≠ 54) : FRI u (sA w k j x) := by
  refine ⟨h.1, h.2.1, fun a b ha hb => ?_, h.2.2.2.1, fun q => (h.2.2.2.2.1 q).of (by rw [sA_3, if_neg (fun z => hn.1 z.symm)]) (by rw [sA_3, if_neg (fun z => hn.2.1 z.symm)]), fun q => by rw [sA_3, if_neg (fun z => hn.2.2 z.symm)]; exact h.2.2.2.2.2 q⟩
  rw [sA_3]
  by_cases c : a = k
  · rw [if_pos c]
    subst c
    unfold upd
    by_cases c2 : b = j
    · exfalso
      subst c2
      rcases hk with q | ⟨q1, q2⟩
      · exact ha q
      · exact hb.elim q1 (fun z => z q2)
    · rw [if_neg c2]
      exact h.2.2.1 a b ha hb
  · rw [if_neg c]
    exact h.2.2.1 a b ha hb
theorem FRI.sB {y : Int64} (h : FRI u w) (hk : zl k) : FRI u (sB w k j y) := by
  refine ⟨h.1, h.2.1, h.2.2.1, fun a ha => ?_, h.2.2.2.2⟩
  rw [sB_4, if_neg (fun z => ha (by rw [z]; exact hk))]
  exact h.2.2.2.1 a ha
theorem FRI.sL {y : Int64} (h : FRI u w) : FRI u (sL w k y) := h
theorem TB0.ta (h : TB0 u) (hg : ¬ u.1 69 = 0 → GKS u) : TABS u := by
  obtain ⟨h1, h2, h3, h4, h5, -, h6, h7, h8, h9⟩ := h
  exact ⟨h1, h2, h3, h4, fun q g hl => (hg q g hl).1, h6, (h5 (toN u)).2.1.2, h7, h8, h9⟩
theorem TB0.ef (h : TB0 u) (he : EFr u w) : TB0 w := by
  obtain ⟨a1, a2, -⟩ := he
  unfold TB0 VOK SLT PRT INT CNT
  rw [a1 61 (by decide), a1 72 (by decide), a1 56 (by decide), a2 10 (by decide), a2 11 (by decide), a2 12 (by decide), a2 13 (by decide), a2 15 (by decide), a2 20 (by decide), a2 21 (by decide), a2 23 (by decide), a2 28 (by decide), a2 29 (by decide), a2 30 (by decide), a2 31 (by decide), a2 33 (by decide), a2 38 (by decide), a2 39 (by decide), a2 19 (by decide), a2 27 (by decide), a2 42 (by decide), a2 37 (by decide), a2 36 (by decide), a2 48 (by decide)]
  exact h
theorem GKS.ef (h : GKS u) (he : EFr u w) : GKS w := by
  have et := he.to
  obtain ⟨a1, a2, -⟩ := he
  unfold GKS GOK
  rw [et, a1 61 (by decide), a2 59 (by decide), a2 60 (by decide), a2 42 (by decide), a2 37 (by decide), a2 36 (by decide)]
  exact h
theorem ssz_eq {n m : Nat} (h : ∀ i, i < n → w.2.2.1 21 (m + i) = u.2.2.1 21 (m + i)) : ssz w m n = ssz u m n := by
  induction n with
  | zero => rfl
  | succ n ih =>
    show ssz w m n + _ = ssz u m n + _
    rw [ih (fun i hi => h i (by omega)), h n (by omega)]
theorem NUQ.ef (h : NUQ u) (he : EFr u w) : NUQ w := by
  have et := he.to
  obtain ⟨a1, a2, -⟩ := he
  obtain ⟨h1, h2, h3, h4, h5, h6, h7⟩ := h
  refine ⟨by rw [a1 61 (by decide)]; exact h1, by rw [a1 61 (by decide), a1 62 (by decide)]; exact h2, by rw [a1 62 (by decide)]; exact h3, by rw [et, a2 19 (by decide), a1 62 (by decide)]; exact h4, by rw [et, a2 27 (by decide), a1 62 (by decide)]; exact h5, ?_, ?_⟩
  · unfold KNS
    rw [a1 63 (by decide), a2 64 (by decide)]
    exact h6
  · unfold BLK
    rw [et, a2 36 (by decide), a2 28 (by decide), a2 29 (by decide), a2 27 (by decide), a2 31 (by decide)]
    intro b hb
    obtain ⟨q1, q2⟩ := h7 b hb
    exact ⟨q1, by rw [q2]; exact (ssz_eq (fun i _ => by rw [a2 21 (by decide)])).symm⟩
/-- what the code rests on -/
def CSM (u w : RSt) : Prop := toN w = toN u ∧ ∀ k, k ∈ [30, 32, 36, 37, 38, 42, 43, 45, 48, 49, 50, 51, 54] → w.2.2.1 k = u.2.2.1 k
theorem CSM.pos (h : CSM u w) : posR w = posR u := by unfold posR; rw [h.1, h.2 54 (by decide)]
theorem CSM.bs (h : CSM u w) : bsR w = bsR u := by unfold bsR; rw [h.1]
theorem CSM.sac (h : CSM u w) (p : Nat) : SAC u w p := ⟨by unfold opA; rw [h.2 49 (by decide)], by unfold aA; rw [h.2 50 (by decide)], by unfold bA; rw [h.2 51 (by decide)]⟩
theorem CSM.lc {H : Nat → Sh} {lo hi pc : Nat} (h : CSM u w) (hl : LC u H lo hi pc) (hp : pc ≤ hi) : LC w H lo hi pc := by
  have e49 : w.2.2.1 49 = u.2.2.1 49 := h.2 49 (by decide)
  unfold LC NX NX3 ENT CFq CIq opA aA bA at hl ⊢
  rw [e49, h.2 50 (by decide), h.2 51 (by decide), h.2 30 (by decide), h.2 32 (by decide), h.2 38 (by decide), h.2 37 (by decide), h.2 42 (by decide)]
  exact hl
theorem CDQ.csm (h : CDQ u) (hc : CSM u w) (hk : kP u ≤ kP w) : CDQ w := by
  obtain ⟨h1, h2, h3, H, h4, h5, h6, h7⟩ := h
  have en : ∀ {e : Int32} {m : Nat}, ENT u H (bsR u) (posR u) e m → ENT w H (bsR u) (posR u) e m := by
    intro e m q
    exact q.fr (fun p _ => (hc.sac p).1) (fun _ _ => rfl) (Nat.le_refl _)
  refine ⟨by rw [hc.1, hc.2 54 (by decide)]; exact h1, by rw [hc.1, hc.2 54 (by decide)]; omega, ?_, H, ?_, ?_, ?_, ?_⟩
  · unfold INB
    rw [hc.1, hc.2 42 (by decide), hc.2 36 (by decide), hc.2 38 (by decide)]
    exact h3
  · rw [hc.bs, hc.pos]
    exact fun pc q1 q2 => hc.lc (h4 pc q1 q2) (by omega)
  · rw [hc.bs, hc.pos, hc.1, hc.2 37 (by decide), hc.2 32 (by decide)]
    exact fun f q => en (h5 f q)
  · rw [hc.bs, hc.pos, hc.1, hc.2 36 (by decide), hc.2 32 (by decide)]
    exact fun f q => en (h6 f q)
  · rw [hc.1, hc.2 48 (by decide), hc.2 45 (by decide), hc.2 43 (by decide)]
    unfold TE at h7 ⊢
    rw [hc.bs, hc.pos]
    exact h7
theorem LF.csm (h : LF u w) : CSM u w := ⟨h.to, fun k _ => by rw [h.1]⟩
/-- a leaf keeps what stands between items -/
theorem IVQ.lf {o' : Int} (h : IVQ u T o) (hl : LFT u w T) (ho : w.1 67 = 0 → opn w = o') : IVQ w T o' := by
  obtain ⟨h1, h2, h3, h4⟩ := h
  refine ⟨h1.lf hl, h2.ef hl.1.ef, ho, fun ha => ?_⟩
  obtain ⟨q1, q2, q3⟩ := h4 ((FRI.lf hl.1).ac ha)
  exact ⟨q1.ef hl.1.ef, q2.ef hl.1.ef, q3.csm hl.1.csm hl.2.1⟩
theorem IVQ.flt (h : IVQ u T o) (hl : FLT u w) {o' : Int} : IVQ w T o' := by
  have hk : kP w = kP u := by unfold kP; rw [hl.2.2]
  exact h.lf ⟨hl.2.1, by omega, by have := h.1.2.2.2; omega⟩ (fun z => absurd z hl.1)
theorem IVQ.ta (h : IVQ u T o) (hz : u.1 67 = 0) : TABS u := h.2.1.ta (fun q => (h.2.2.2 ⟨q, hz⟩).1)
end RItm
