/-! Outcomes of the first pass: .inl p: refused at token p; .inr j: through, up to j. -/
abbrev Rl := Nat → Sum Nat Nat → Prop
def oT (ty : Nat → Int32) (t : Int32) : Rl := fun i q => (ty i = t ∧ q = .inr (i + 1)) ∨ (¬ ty i = t ∧ q = .inl i)
def oKd (ty : Nat → Int32) : Rl := fun i q => ((12 ≤ ty i ∧ ty i ≤ 16) ∧ q = .inr (i + 1)) ∨ (¬ (12 ≤ ty i ∧ ty i ≤ 16) ∧ q = .inl i)
def oP (ty : Nat → Int32) (b : Prop) (t : Int32) : Rl := fun i q => ((ty i = t ∧ b) ∧ q = .inr (i + 1)) ∨ (¬ (ty i = t ∧ b) ∧ q = .inl i)
def oPo (ty : Nat → Int32) (b : Prop) : Rl := fun i => oP ty b (ty i) i
def oN (A : Rl) : Rl := fun i => A (i + 1)
def oS (A B : Rl) : Rl := fun i q => (∃ j, A i (.inr j) ∧ B j q) ∨ (∃ p, A i (.inl p) ∧ q = .inl p)
def oF (c : Nat → Prop) (A B : Rl) : Rl := fun i q => (c i ∧ A i q) ∨ (¬ c i ∧ B i q)
def oE : Rl := fun i q => q = .inr i
def oR : Rl := fun i q => q = .inl i
def oWn (c : Nat → Prop) (A B : Rl) : Nat → Rl
  | 0 => fun i q => ¬ c i ∧ B i q
  | m + 1 => fun i q => c i ∧ oS A (oWn c A B m) i q
def oW (c : Nat → Prop) (A B : Rl) : Rl := fun i q => ∃ m, oWn c A B m i q
section Out
variable {ty : Nat → Int32} {c : Nat → Prop} {A B : Rl} {i j : Nat} {q : Sum Nat Nat} {b : Prop} {t : Int32}
theorem oF_t (h : c i) (hq : A i q) : oF c A B i q := Or.inl ⟨h, hq⟩
theorem oF_f (h : ¬ c i) (hq : B i q) : oF c A B i q := Or.inr ⟨h, hq⟩
theorem oW_0 (h : ¬ c i) (hq : B i q) : oW c A B i q := ⟨0, h, hq⟩
theorem oW_s (h : c i) (hq : oS A (oW c A B) i q) : oW c A B i q := by
  rcases hq with ⟨j, h1, m, h2⟩ | ⟨p, h1, h2⟩
  · exact ⟨m + 1, h, Or.inl ⟨j, h1, h2⟩⟩
  · exact ⟨1, h, Or.inr ⟨p, h1, h2⟩⟩
theorem oW_i (h : oW c A B i q) : (¬ c i ∧ B i q) ∨ (c i ∧ oS A (oW c A B) i q) := by
  obtain ⟨m, h⟩ := h
  cases m with
  | zero => exact Or.inl h
  | succ m =>
    refine Or.inr ⟨h.1, ?_⟩
    rcases h.2 with ⟨j, h1, h2⟩ | ⟨p, h1, h2⟩
    · exact Or.inl ⟨j, h1, m, h2⟩
    · exact Or.inr ⟨p, h1, h2⟩
theorem oS_m {A' B' : Rl} (hA : ∀ i q, A i q → A' i q) (hB : ∀ i q, B i q → B' i q) (h : oS A B i q) : oS A' B' i q := by
  rcases h with ⟨j, h1, h2⟩ | ⟨p, h1, h2⟩
  · exact Or.inl ⟨j, hA _ _ h1, hB _ _ h2⟩
  · exact Or.inr ⟨p, hA _ _ h1, h2⟩
/-- one outcome alone -/
def Dt (A : Rl) : Prop := ∀ i q q', A i q → A i q' → q = q'
theorem dt_or {P : Nat → Prop} {f g : Nat → Sum Nat Nat} : Dt (fun i q => (P i ∧ q = f i) ∨ (¬ P i ∧ q = g i)) := by
  rintro i q q' (⟨h, e⟩ | ⟨h, e⟩) (⟨h2, e2⟩ | ⟨h2, e2⟩)
  · rw [e, e2]
  · exact absurd h h2
  · exact absurd h2 h
  · rw [e, e2]
theorem dt_T : Dt (oT ty t) := dt_or
theorem dt_K : Dt (oKd ty) := dt_or
theorem dt_P : Dt (oP ty b t) := dt_or
theorem dt_Po : Dt (oPo ty b) := fun i q q' h h' => dt_P (t := ty i) i q q' h h'
theorem dt_N (h : Dt A) : Dt (oN A) := fun i q q' h1 h2 => h (i + 1) q q' h1 h2
theorem dt_E : Dt oE := fun _ _ _ h1 h2 => h1.trans h2.symm
theorem dt_R : Dt oR := fun _ _ _ h1 h2 => h1.trans h2.symm
theorem dt_S (hA : Dt A) (hB : Dt B) : Dt (oS A B) := by
  rintro i q q' (⟨j, h1, h2⟩ | ⟨p, h1, h2⟩) (⟨j', g1, g2⟩ | ⟨p', g1, g2⟩)
  · have := hA _ _ _ h1 g1
    cases this
    exact hB _ _ _ h2 g2
  · cases hA _ _ _ h1 g1
  · cases hA _ _ _ h1 g1
  · have := hA _ _ _ h1 g1
    cases this
    rw [h2, g2]
theorem dt_F (hA : Dt A) (hB : Dt B) : Dt (oF c A B) := by
  rintro i q q' (⟨h, e⟩ | ⟨h, e⟩) (⟨h2, e2⟩ | ⟨h2, e2⟩)
  · exact hA _ _ _ e e2
  · exact absurd h h2
  · exact absurd h2 h
  · exact hB _ _ _ e e2
theorem dt_Wn (hA : Dt A) (hB : Dt B) : ∀ (m m' i : Nat) (q q' : Sum Nat Nat), oWn c A B m i q → oWn c A B m' i q' → q = q' := by
  intro m
  induction m with
  | zero =>
    intro m' i q q' h h'
    cases m' with
    | zero => exact hB _ _ _ h.2 h'.2
    | succ m' => exact absurd h'.1 h.1
  | succ m ih =>
    intro m' i q q' h h'
    cases m' with
    | zero => exact absurd h.1 h'.1
    | succ m' =>
      rcases h.2 with ⟨j, h1, h2⟩ | ⟨p, h1, h2⟩ <;> rcases h'.2 with ⟨j', g1, g2⟩ | ⟨p', g1, g2⟩
      · have := hA _ _ _ h1 g1
        cases this
        exact ih _ _ _ _ h2 g2
      · cases hA _ _ _ h1 g1
      · cases hA _ _ _ h1 g1
      · have := hA _ _ _ h1 g1
        cases this
        rw [h2, g2]
theorem dt_W (hA : Dt A) (hB : Dt B) : Dt (oW c A B) := fun i q q' ⟨m, h⟩ ⟨m', h'⟩ => dt_Wn hA hB m m' i q q' h h'
/-- it goes on -/
def Pg (A : Rl) : Prop := ∀ i j, A i (.inr j) → i < j
def Pl (A : Rl) : Prop := ∀ i j, A i (.inr j) → i ≤ j
theorem Pg.le (h : Pg A) : Pl A := fun i j q => Nat.le_of_lt (h i j q)
theorem pg_or {P : Nat → Prop} : Pg (fun i q => (P i ∧ q = .inr (i + 1)) ∨ (¬ P i ∧ q = .inl i)) := by
  rintro i j (⟨h, e⟩ | ⟨h, e⟩)
  · cases e; omega
  · cases e
theorem pg_T : Pg (oT ty t) := pg_or
theorem pg_K : Pg (oKd ty) := pg_or
theorem pg_P : Pg (oP ty b t) := pg_or
theorem pg_Po : Pg (oPo ty b) := fun i j h => pg_P (t := ty i) i j h
theorem pg_N (h : Pl A) : Pg (oN A) := fun i j q => by have := h (i + 1) j q; omega
theorem pl_E : Pl oE := fun i j q => by cases q; omega
theorem pg_R : Pg oR := fun i j q => by cases q
theorem pg_S (hA : Pg A) (hB : Pl B) : Pg (oS A B) := by
  rintro i j (⟨k, h1, h2⟩ | ⟨p, h1, h2⟩)
  · have := hA _ _ h1; have := hB _ _ h2; omega
  · cases h2
theorem pl_S (hA : Pl A) (hB : Pl B) : Pl (oS A B) := by
  rintro i j (⟨k, h1, h2⟩ | ⟨p, h1, h2⟩)
  · have := hA _ _ h1; have := hB _ _ h2; omega
  · cases h2
theorem pg_F (hA : Pg A) (hB : Pg B) : Pg (oF c A B) := by
  rintro i j (⟨h, e⟩ | ⟨h, e⟩)
  · exact hA _ _ e
  · exact hB _ _ e
theorem pl_F (hA : Pl A) (hB : Pl B) : Pl (oF c A B) := by
  rintro i j (⟨h, e⟩ | ⟨h, e⟩)
  · exact hA _ _ e
  · exact hB _ _ e
theorem pl_W (hA : Pl A) (hB : Pl B) : Pl (oW c A B) := by
  rintro i j ⟨m, h⟩
  induction m generalizing i with
  | zero => exact hB _ _ h.2
  | succ m ih =>
    rcases h.2 with ⟨k, h1, h2⟩ | ⟨p, h1, h2⟩
    · have := hA _ _ h1; have := ih k h2; omega
    · cases h2
theorem pg_W (hA : Pl A) (hB : Pg B) : Pg (oW c A B) := by
  rintro i j ⟨m, h⟩
  induction m generalizing i with
  | zero => exact hB _ _ h.2
  | succ m ih =>
    rcases h.2 with ⟨k, h1, h2⟩ | ⟨p, h1, h2⟩
    · have := hA _ _ h1; have := ih k h2; omega
    · cases h2
end Out
/-! the grammar -/
def dC1 (ty : Nat → Int32) : Rl := oF (fun i => ty i = 129 ∨ ty i = 130) (oN oE) oR
def dC (ty : Nat → Int32) : Rl := oF (fun i => ty i = 45) (oN (dC1 ty)) (dC1 ty)
def dLab (ty : Nat → Int32) : Rl := oS (dC ty) (oF (fun i => ty i = 11822) (oN (dC ty)) oE)
def dBit (ty : Nat → Int32) : Rl := oF (fun i => ty i = 46) (oN (oT ty 129)) oE
def dV1 (ty : Nat → Int32) : Rl := oF (fun i => ty i = 61) (oN (dC ty)) oE
def dVar (ty : Nat → Int32) : Rl := oS (oT ty 128) (oF (fun i => ty i = 91) (oS (oP ty True 91) (oS (oT ty 129) (oS (oT ty 93) (dV1 ty)))) (dV1 ty))
def dVl (ty : Nat → Int32) : Rl := oW (fun i => ty i = 44) (oN (dVar ty)) (oT ty 59)
def dVars (ty : Nat → Int32) : Rl := oN (oS (oKd ty) (oS (dVar ty) (dVl ty)))
def dPlc (ty : Nat → Int32) : Rl := oN (oS (oKd ty) (oS (oT ty 128) (oS (oT ty 5) (oS (oT ty 129) (oT ty 59)))))
def dUse (ty : Nat → Int32) : Rl := oN (oS (oT ty 128) (oS (oT ty 128) (oW (fun i => ty i = 44) (oN (oT ty 128)) (oT ty 59))))
def dAl (ty : Nat → Int32) (X : Rl) : Rl := oW (fun i => ty i = 44) (oN X) (oT ty 41)
def dArg (ty : Nat → Int32) (b : Prop) (X : Rl) : Rl := oS (oP ty b 40) (oF (fun i => ty i = 41) (dAl ty X) (oS X (dAl ty X)))
def dIdx (ty : Nat → Int32) (b : Prop) (X : Rl) : Rl := oF (fun i => ty i = 91) (oS (oP ty b 91) (oS X (oT ty 93))) oE
def dNop (ty : Nat → Int32) (b : Prop) (X : Rl) : Rl := oN (oF (fun i => ty i = 40) (dArg ty b X) (oF (fun i => ty i = 46 ∧ ty (i + 1) = 128) (oN (oN (dIdx ty b X))) (oS (dIdx ty b X) (dBit ty))))
def dBr (ty : Nat → Int32) (b : Prop) (X O : Rl) : Rl := oS (oP ty b 40) (oF (fun i => 12 ≤ ty i ∧ ty i ≤ 16) (oN (oS (oT ty 41) O)) (oS X (oT ty 41)))
def dOpd (ty : Nat → Int32) (b : Prop) (X O : Rl) : Rl := oF (fun i => ty i = 45 ∨ ty i = 126 ∨ ty i = 33) (oS (oPo ty b) O) (oF (fun i => ty i = 40) (dBr ty b X O) (oF (fun i => ty i = 128) (dNop ty b X) (oF (fun i => ty i = 29 ∨ ty i = 129 ∨ ty i = 130) (oN oE) oR)))
def dAsk (ty : Nat → Int32) (b : Prop) (X : Rl) : Rl := oF (fun i => ty i = 63) (oS (oP ty b 63) (oS X (oS (oT ty 58) X))) oE
def dEx (ty : Nat → Int32) (b : Prop) (X O : Rl) : Rl := oS O (oW (fun i => isOp (ty i)) (oN O) (dAsk ty b X))
def dEO (ty : Nat → Int32) : Nat → Rl × Rl
  | 0 => (oR, oR)
  | L + 1 => (dEx ty (0 < L) (dEO ty L).1 (dOpd ty (0 < L) (dEO ty L).1 (dEO ty L).2), dOpd ty (0 < L) (dEO ty L).1 (dEO ty L).2)
def dX (ty : Nat → Int32) (L : Nat) : Rl := (dEO ty L).1
def dO (ty : Nat → Int32) (L : Nat) : Rl := (dEO ty L).2
def dNam (ty : Nat → Int32) (b : Prop) (E X : Rl) : Rl := oN (oF (fun i => ty i = 40) (oS (dArg ty b X) (oT ty 59)) (oS (dIdx ty b X) (oS (dBit ty) (oF (fun i => isAsg (ty i)) (oN (oS E (oT ty 59))) (oF (fun i => ty i = 11051 ∨ ty i = 11565) (oN (oT ty 59)) oR)))))
def dRet (ty : Nat → Int32) (E : Rl) : Rl := oN (oF (fun i => ty i = 59) (oT ty 59) (oS E (oT ty 59)))
def dSl (ty : Nat → Int32) (S : Rl) : Rl := oW (fun i => ¬ ty i = 125) S (oT ty 125)
def dBody (ty : Nat → Int32) (b : Prop) (S : Rl) : Rl := oS (oP ty b 123) (dSl ty S)
def dEl (ty : Nat → Int32) (E B : Rl) : Rl := oW (fun i => ty i = 18) (oN (oS E B)) (oF (fun i => ty i = 19) (oN B) oE)
def dCho (ty : Nat → Int32) (E B : Rl) : Rl := oN (oS E (oS B (dEl ty E B)))
def dCnt (ty : Nat → Int32) (E B : Rl) : Rl := oN (oS (oT ty 128) (oS (oT ty 61) (oS E (oS (oT ty 11822) (oS E B)))))
def dLl (ty : Nat → Int32) (B : Rl) : Rl := oW (fun i => ty i = 44) (oN (dLab ty)) B
def dCl (ty : Nat → Int32) (B : Rl) : Rl := oW (fun i => ty i = 23) (oN (oS (dLab ty) (dLl ty B))) (oF (fun i => ty i = 24) (oN (oS B (oT ty 125))) (oT ty 125))
def dCas (ty : Nat → Int32) (b : Prop) (E B : Rl) : Rl := oN (oS E (oS (oP ty b 123) (dCl ty B)))
def dStat (ty : Nat → Int32) (b : Prop) (E X B B' : Rl) : Rl := oF (fun i => ty i = 17) (dCho ty E B) (oF (fun i => ty i = 20) (oN (oS E B)) (oF (fun i => ty i = 21) (dCnt ty E B) (oF (fun i => ty i = 22) (dCas ty b E B') (oF (fun i => ty i = 25 ∨ ty i = 26) (oN (oT ty 59)) (oF (fun i => ty i = 27) (dRet ty E) (oF (fun i => ty i = 28) (oN (oS E (oT ty 59))) (oF (fun i => ty i = 128) (dNam ty b E X) oR)))))))
def dSB (ty : Nat → Int32) : Nat → Rl × Rl
  | 0 => (oR, oR)
  | L + 1 => (dStat ty (0 < L) (dX ty (L + 1)) (dX ty L) (dBody ty (0 < L) (dSB ty L).1) (dSB ty L).2, dBody ty (0 < L) (dSB ty L).1)
def dSt (ty : Nat → Int32) (L : Nat) : Rl := (dSB ty L).1
def dBo (ty : Nat → Int32) (L : Nat) : Rl := (dSB ty L).2
def dVs (ty : Nat → Int32) : Rl := oW (fun i => ty i = 1) (dVars ty) (dSl ty (dSt ty 24))
def dPar (ty : Nat → Int32) : Rl := oS (oKd ty) (oT ty 128)
def dPl (ty : Nat → Int32) : Rl := oW (fun i => ty i = 44) (oN (dPar ty)) (oS (oT ty 41) (oS (oP ty True 123) (dVs ty)))
def dRout (ty : Nat → Int32) : Rl := oS (oT ty 128) (oS (oP ty True 40) (oF (fun i => ty i = 41) (dPl ty) (oS (dPar ty) (dPl ty))))
def dCyc (ty : Nat → Int32) : Rl := oN (oS (oT ty 128) (oS (oT ty 10) (oS (oT ty 129) (oF (fun i => ty i = 11) (oN (oS (oT ty 129) (dBo ty 25))) (dBo ty 25)))))
def dItem (ty : Nat → Int32) : Rl := oF (fun i => ty i = 1 ∨ ty i = 2) (dVars ty) (oF (fun i => ty i = 3 ∨ ty i = 4) (dPlc ty) (oF (fun i => ty i = 6) (oN (dRout ty)) (oF (fun i => ty i = 7) (dUse ty) (oF (fun i => ty i = 8) (oN (oS (oKd ty) (dRout ty))) (oF (fun i => ty i = 9) (dCyc ty) oR)))))
def dText (ty : Nat → Int32) : Rl := oW (fun i => ¬ ty i = 0) (dItem ty) oE
section Gram3
variable {ty : Nat → Int32} {A B E X O S : Rl} {b : Prop}
theorem dt_C : Dt (dC ty) := dt_F (dt_N (dt_F (dt_N dt_E) dt_R)) (dt_F (dt_N dt_E) dt_R)
theorem dt_Lab : Dt (dLab ty) := dt_S dt_C (dt_F (dt_N dt_C) dt_E)
theorem dt_Bit : Dt (dBit ty) := dt_F (dt_N dt_T) dt_E
theorem dt_V1 : Dt (dV1 ty) := dt_F (dt_N dt_C) dt_E
theorem dt_Var : Dt (dVar ty) := dt_S dt_T (dt_F (dt_S dt_P (dt_S dt_T (dt_S dt_T dt_V1))) dt_V1)
theorem dt_Vars : Dt (dVars ty) := dt_N (dt_S dt_K (dt_S dt_Var (dt_W (dt_N dt_Var) dt_T)))
theorem dt_Plc : Dt (dPlc ty) := dt_N (dt_S dt_K (dt_S dt_T (dt_S dt_T (dt_S dt_T dt_T))))
theorem dt_Use : Dt (dUse ty) := dt_N (dt_S dt_T (dt_S dt_T (dt_W (dt_N dt_T) dt_T)))
theorem dt_Arg (hX : Dt X) : Dt (dArg ty b X) := dt_S dt_P (dt_F (dt_W (dt_N hX) dt_T) (dt_S hX (dt_W (dt_N hX) dt_T)))
theorem dt_Idx (hX : Dt X) : Dt (dIdx ty b X) := dt_F (dt_S dt_P (dt_S hX dt_T)) dt_E
theorem dt_Nop (hX : Dt X) : Dt (dNop ty b X) := dt_N (dt_F (dt_Arg hX) (dt_F (dt_N (dt_N (dt_Idx hX))) (dt_S (dt_Idx hX) dt_Bit)))
theorem dt_Opd (hX : Dt X) (hO : Dt O) : Dt (dOpd ty b X O) := dt_F (dt_S dt_Po hO) (dt_F (dt_S dt_P (dt_F (dt_N (dt_S dt_T hO)) (dt_S hX dt_T))) (dt_F (dt_Nop hX) (dt_F (dt_N dt_E) dt_R)))
theorem dt_Ex (hX : Dt X) (hO : Dt O) : Dt (dEx ty b X O) := dt_S hO (dt_W (dt_N hO) (dt_F (dt_S dt_P (dt_S hX (dt_S dt_T hX))) dt_E))
theorem dt_EO : ∀ L, Dt (dX ty L) ∧ Dt (dO ty L) := by
  intro L
  induction L with
  | zero => exact ⟨dt_R, dt_R⟩
  | succ L ih => exact ⟨dt_Ex ih.1 (dt_Opd ih.1 ih.2), dt_Opd ih.1 ih.2⟩
theorem dt_Nam (hE : Dt E) (hX : Dt X) : Dt (dNam ty b E X) := dt_N (dt_F (dt_S (dt_Arg hX) dt_T) (dt_S (dt_Idx hX) (dt_S dt_Bit (dt_F (dt_N (dt_S hE dt_T)) (dt_F (dt_N dt_T) dt_R)))))
theorem dt_Body (hS : Dt S) : Dt (dBody ty b S) := dt_S dt_P (dt_W hS dt_T)
theorem dt_Stat {B' : Rl} (hE : Dt E) (hX : Dt X) (hB : Dt B) (hB' : Dt B') : Dt (dStat ty b E X B B') :=
  dt_F (dt_N (dt_S hE (dt_S hB (dt_W (dt_N (dt_S hE hB)) (dt_F (dt_N hB) dt_E))))) (dt_F (dt_N (dt_S hE hB)) (dt_F (dt_N (dt_S dt_T (dt_S dt_T (dt_S hE (dt_S dt_T (dt_S hE hB)))))) (dt_F (dt_N (dt_S hE (dt_S dt_P (dt_W (dt_N (dt_S dt_Lab (dt_W (dt_N dt_Lab) hB'))) (dt_F (dt_N (dt_S hB' dt_T)) dt_T))))) (dt_F (dt_N dt_T) (dt_F (dt_N (dt_F dt_T (dt_S hE dt_T))) (dt_F (dt_N (dt_S hE dt_T)) (dt_F (dt_Nam hE hX) dt_R)))))))
theorem dt_SB : ∀ L, Dt (dSt ty L) ∧ Dt (dBo ty L) := by
  intro L
  induction L with
  | zero => exact ⟨dt_R, dt_R⟩
  | succ L ih => exact ⟨dt_Stat (dt_EO (L + 1)).1 (dt_EO L).1 (dt_Body ih.1) ih.2, dt_Body ih.1⟩
theorem dt_Rout : Dt (dRout ty) := by
  have hp : Dt (dPl ty) := dt_W (dt_N (dt_S dt_K dt_T)) (dt_S dt_T (dt_S dt_P (dt_W dt_Vars (dt_W (dt_SB 24).1 dt_T))))
  exact dt_S dt_T (dt_S dt_P (dt_F hp (dt_S (dt_S dt_K dt_T) hp)))
theorem dt_Cyc : Dt (dCyc ty) := dt_N (dt_S dt_T (dt_S dt_T (dt_S dt_T (dt_F (dt_N (dt_S dt_T (dt_SB 25).2)) (dt_SB 25).2))))
theorem dt_Text : Dt (dText ty) := dt_W (dt_F dt_Vars (dt_F dt_Plc (dt_F (dt_N dt_Rout) (dt_F dt_Use (dt_F (dt_N (dt_S dt_K dt_Rout)) (dt_F dt_Cyc dt_R)))))) dt_E
/-! they go on -/
theorem pg_C1 : Pg (dC1 ty) := pg_F (pg_N pl_E) pg_R
theorem pg_C : Pg (dC ty) := pg_F (pg_N pg_C1.le) pg_C1
theorem pg_Lab : Pg (dLab ty) := pg_S pg_C (pl_F (pg_N pg_C.le).le pl_E)
theorem pl_Bit : Pl (dBit ty) := pl_F (pg_N pg_T.le).le pl_E
theorem pl_V1 : Pl (dV1 ty) := pl_F (pg_N pg_C.le).le pl_E
theorem pg_Var : Pg (dVar ty) := pg_S pg_T (pl_F (pg_S pg_P (pg_S pg_T (pg_S pg_T pl_V1).le).le).le pl_V1)
theorem pg_Vars : Pg (dVars ty) := pg_N (pg_S pg_K (pg_S pg_Var (pg_W (pg_N pg_Var.le).le pg_T).le).le).le
theorem pg_Plc : Pg (dPlc ty) := pg_N (pg_S pg_K (pg_S pg_T (pg_S pg_T (pg_S pg_T pg_T.le).le).le).le).le
theorem pg_Use : Pg (dUse ty) := pg_N (pg_S pg_T (pg_S pg_T (pg_W (pg_N pg_T.le).le pg_T).le).le).le
theorem pl_Idx (hX : Pl X) : Pl (dIdx ty b X) := pl_F (pg_S pg_P (pl_S hX pg_T.le)).le pl_E
theorem pg_Arg (hX : Pl X) : Pg (dArg ty b X) := pg_S pg_P (pl_F (pl_W (pg_N hX).le pg_T.le) (pl_S hX (pl_W (pg_N hX).le pg_T.le)))
theorem pg_Nop (hX : Pl X) : Pg (dNop ty b X) := pg_N (pl_F (pg_Arg hX).le (pl_F (pg_N (pg_N (pl_Idx hX)).le).le (pl_S (pl_Idx hX) pl_Bit)))
theorem pg_Opd (hX : Pl X) (hO : Pl O) : Pg (dOpd ty b X O) := pg_F (pg_S pg_Po hO) (pg_F (pg_S pg_P (pl_F (pg_N (pg_S pg_T hO).le).le (pl_S hX pg_T.le))) (pg_F (pg_Nop hX) (pg_F (pg_N pl_E) pg_R)))
theorem pg_Ex (hX : Pl X) (hO : Pg O) : Pg (dEx ty b X O) := pg_S hO (pl_W (pg_N hO.le).le (pl_F (pg_S pg_P (pl_S hX (pg_S pg_T hX).le)).le pl_E))
theorem pg_EO : ∀ L, Pg (dX ty L) ∧ Pg (dO ty L) := by
  intro L
  induction L with
  | zero => exact ⟨pg_R, pg_R⟩
  | succ L ih => exact ⟨pg_Ex ih.1.le (pg_Opd ih.1.le ih.2.le), pg_Opd ih.1.le ih.2.le⟩
theorem pg_Sl (hS : Pl S) : Pg (dSl ty S) := pg_W hS pg_T
theorem pg_Body (hS : Pl S) : Pg (dBody ty b S) := pg_S pg_P (pg_Sl hS).le
theorem pg_Nam (hE : Pl E) (hX : Pl X) : Pg (dNam ty b E X) := pg_N (pl_F (pg_S (pg_Arg hX) pg_T.le).le (pl_S (pl_Idx hX) (pl_S pl_Bit (pl_F (pg_N (pl_S hE pg_T.le)).le (pl_F (pg_N pg_T.le).le pg_R.le)))))
theorem pg_Stat {B' : Rl} (hE : Pl E) (hX : Pl X) (hB : Pl B) (hB' : Pl B') : Pg (dStat ty b E X B B') :=
  pg_F (pg_N (pl_S hE (pl_S hB (pl_W (pg_N (pl_S hE hB)).le (pl_F (pg_N hB).le pl_E))))) (pg_F (pg_N (pl_S hE hB)) (pg_F (pg_N (pg_S pg_T (pg_S pg_T (pl_S hE (pg_S pg_T (pl_S hE hB)).le)).le).le) (pg_F (pg_N (pl_S hE (pg_S pg_P (pl_W (pg_N (pg_S pg_Lab (pl_W (pg_N pg_Lab.le).le hB')).le).le (pl_F (pg_N (pl_S hB' pg_T.le)).le pg_T.le))).le)) (pg_F (pg_N pg_T.le) (pg_F (pg_N (pl_F pg_T.le (pl_S hE pg_T.le))) (pg_F (pg_N (pl_S hE pg_T.le)) (pg_F (pg_Nam hE hX) pg_R)))))))
theorem pg_SB : ∀ L, Pg (dSt ty L) ∧ Pg (dBo ty L) := by
  intro L
  induction L with
  | zero => exact ⟨pg_R, pg_R⟩
  | succ L ih => exact ⟨pg_Stat (pg_EO (L + 1)).1.le (pg_EO L).1.le (pg_Body ih.1.le).le ih.2.le, pg_Body ih.1.le⟩
theorem pg_Par : Pg (dPar ty) := pg_S pg_K pg_T.le
theorem pg_Rout : Pg (dRout ty) := by
  have hp : Pl (dPl ty) := pl_W (pg_N pg_Par.le).le (pg_S pg_T (pg_S pg_P (pl_W pg_Vars.le (pg_Sl (pg_SB 24).1.le).le)).le).le
  exact pg_S pg_T (pg_S pg_P (pl_F hp (pl_S pg_Par.le hp))).le
theorem pg_Cyc : Pg (dCyc ty) := pg_N (pg_S pg_T (pg_S pg_T (pg_S pg_T (pl_F (pg_N (pg_S pg_T (pg_SB 25).2.le).le).le (pg_SB 25).2.le)).le).le).le
theorem pg_Item : Pg (dItem ty) := pg_F pg_Vars (pg_F pg_Plc (pg_F (pg_N pg_Rout.le) (pg_F pg_Use (pg_F (pg_N (pg_S pg_K pg_Rout.le).le) (pg_F pg_Cyc pg_R)))))
end Gram3
