/-! A throw that comes out of a callee and is caught here, behind rows of the table that are passed: over the machine's own search (the library's law for it lies in Shelf42, which a round doesn't have). -/
section Caught
variable {e : Env} {d : Bool} {acts : List Action} {s : State} {f : JFrame} {a : Addr} {Q : Handler → Pre} {E : CtlPost}
theorem hc_row {x : ExceptionTableEntry} {t : List ExceptionTableEntry} {k : ClassId} {cell : Cell} (hx : covers x f.pc = true) (h0 : x.catchType ≠ 0) (hl : s.vm.ClassLinks e.platform f.method.cls x.catchType k) (hcell : s.heap[a]? = some cell) (hobj : ∀ z, cell.vm ≠ .statics z)
    (h1 : ∃ z, s.vm.classes[cell.cls]? = some z) (h2 : ∃ z, s.vm.classes[k]? = some z) :
    wp (findHandler.go f a (x :: t)) Q E e d acts s ↔ if s.vm.assignable cell.cls k = true then Q (.found x.handlerPc) d acts (s.setVm (s.vm.noted f.method.cls x.catchType (.cls k))) else wp (findHandler.go f a t) Q E e d acts (s.setVm (s.vm.noted f.method.cls x.catchType (.cls k))) := by
  obtain ⟨ra, rt⟩ := (resolveClass_links e.toSetting hl).op (op := VmOp.resolveClass f.method.cls x.catchType) rfl
  have al : s.vm.Alike (s.vm.noted f.method.cls x.catchType (.cls k)) := (Vm.Alike.refl s.vm).noted _ _ _
  obtain ⟨z1, e1⟩ := h1
  obtain ⟨z2, e2⟩ := h2
  obtain ⟨y1, f1, -⟩ := al.2.2 _ _ e1
  obtain ⟨y2, f2, -⟩ := al.2.2 _ _ e2
  have as : (s.vm.noted f.method.cls x.catchType (.cls k)).assignable cell.cls k = s.vm.assignable cell.cls k := al.assignable _ _
  simp only [covers] at hx
  cases hq : s.vm.assignable cell.cls k <;> rw [hq] at as <;> simp [findHandler.go, hx, h0, ra, rt, hcell, hobj, f1, f2, as, VmOp.dirties, VmOp.acts]
/-- a row of the table that lets an object of class k go by -/
def hc_by (pl : Platform) (u : State) (o : ClassId) (pc : Nat) (k : ClassId) (y : ExceptionTableEntry) : Prop := covers y pc = false ∨ (y.catchType ≠ 0 ∧ ∃ z, u.vm.ClassLinks pl o y.catchType z ∧ u.vm.assignable k z = false)
theorem hc_go {u : State} {cell : Cell} (hobj : ∀ z, cell.vm ≠ .statics z) (h1 : ∃ z, u.vm.classes[cell.cls]? = some z) (x : ExceptionTableEntry) (suf : List ExceptionTableEntry) (hx : covers x f.pc = true) (h0 : x.catchType ≠ 0) {k : ClassId} (hl : u.vm.ClassLinks e.platform f.method.cls x.catchType k) (hq : u.vm.assignable cell.cls k = true) :
    ∀ (pre : List ExceptionTableEntry) (S : State), u.WarmedH S.vm → S.heap[a]? = some cell → (∀ y ∈ pre, hc_by e.platform u f.method.cls f.pc cell.cls y) →
      ∃ vm1, u.WarmedH vm1 ∧ ∀ (Q : Handler → Pre) (E : CtlPost) (d : Bool) (acts : List Action), wp (findHandler.go f a (pre ++ x :: suf)) Q E e d acts S ↔ Q (.found x.handlerPc) d acts (S.setVm vm1) := by
  have stepL : ∀ (y : ExceptionTableEntry) (z : ClassId) (S : State), u.WarmedH S.vm → u.vm.ClassLinks e.platform f.method.cls y.catchType z → u.WarmedH (S.vm.noted f.method.cls y.catchType (.cls z)) ∧ S.vm.ClassLinks e.platform f.method.cls y.catchType z ∧ (∃ w, S.vm.classes[cell.cls]? = some w) ∧ (∃ w, S.vm.classes[z]? = some w) ∧ S.vm.assignable cell.cls z = u.vm.assignable cell.cls z := by
    intro y z S hW hz
    obtain ⟨dk, _, _, kt, hd, _, _, _, _, hkt, _, hopen⟩ := hz.here
    obtain ⟨w1, e1⟩ := h1
    obtain ⟨w1', g1, -⟩ := hW.alike.2.2 _ _ e1
    obtain ⟨w2', g2, -⟩ := hW.alike.2.2 _ _ hkt
    exact ⟨hW.noted hd hopen (State.rightAt_cls hz), hW.classLinks hz, ⟨_, g1⟩, ⟨_, g2⟩, hW.alike.assignable _ _⟩
  intro pre
  induction pre with
  | nil =>
    intro S hW hcell _
    obtain ⟨b1, b2, b3, b4, b5⟩ := stepL x k S hW hl
    exact ⟨_, b1, fun Q E d acts => by rw [List.nil_append, hc_row hx h0 b2 hcell hobj b3 b4, b5, hq]; simp⟩
  | cons y ys ih =>
    intro S hW hcell hby
    have hys : ∀ z ∈ ys, hc_by e.platform u f.method.cls f.pc cell.cls z := fun z hz => hby z (List.mem_cons_of_mem _ hz)
    cases hc : covers y f.pc with
    | false =>
      obtain ⟨vm1, a1, a2⟩ := ih S hW hcell hys
      exact ⟨vm1, a1, fun Q E d acts => by rw [List.cons_append, W.findHandler_go_skip hc]; exact a2 Q E d acts⟩
    | true =>
      rcases hby y List.mem_cons_self with h | ⟨hy0, z, hz, hn⟩
      · rw [h] at hc; cases hc
      · obtain ⟨b1, b2, b3, b4, b5⟩ := stepL y z S hW hz
        obtain ⟨vm1, a1, a2⟩ := ih (S.setVm (S.vm.noted f.method.cls y.catchType (.cls z))) b1 hcell hys
        exact ⟨vm1, a1, fun Q E d acts => by rw [List.cons_append, hc_row hc hy0 b2 hcell hobj b3 b4, b5, hn]; simp only [Bool.false_eq_true, if_false]; exact a2 Q E d acts⟩
theorem hc_step {r : List Frame} {pc : Nat} {vm1 : Vm} (hfind : ∀ (Q : Handler → Pre) (E : CtlPost) (d : Bool) (acts : List Action), wp (findHandler f a) Q E e d acts s ↔ Q (.found pc) d acts (s.setVm vm1)) :
    (stepThrowing e s a (.java f :: r)).Is ((s.setVm vm1).setFrames (.java { f with pc := pc, stack := [.ref a] } :: r)) [] := by
  simp only [stepThrowing, searchFrame, vmDo]
  generalize hr : Sem.go _ e false [] s = res
  obtain ⟨as, rfl, ha⟩ := Sem.eq_ok_of hr (a := Handler.found pc) (s' := s.setVm vm1) (acts' := []) (by simp [hfind _ _ _ _])
  exact ⟨rfl, ha⟩
theorem hc_caught {p : Program} {l : Launch} {R : Room} {m : MethodId} {args : Array Value} {below : List Frame} {meth : Method} {c : Code} {T : State} {locs : List Loc} {cells slots : Nat} (X : Stand p l e R s m args below meth c T locs cells slots) (a : Addr) {g : JFrame} (hg : g.method = m) {cell : Cell} (hcell : T.heap[a]? = some cell) (hobj : cell.vm.isStatics = false)
    (h1 : ∃ z, s.vm.classes[cell.cls]? = some z) (pre : List ExceptionTableEntry) (x : ExceptionTableEntry) (suf : List ExceptionTableEntry) (hsplit : c.exceptionTable.toList = pre ++ x :: suf) (hby : ∀ y ∈ pre, hc_by e.platform s m.cls g.pc cell.cls y) (hx : covers x g.pc = true) (h0 : x.catchType ≠ 0)
    {k : ClassId} (hl : s.vm.ClassLinks e.platform m.cls x.catchType k) (hq : s.vm.assignable cell.cls k = true) :
    ∃ vm1, Stand p l e R s m args below meth c (T.setVm vm1) locs cells slots ∧ ∀ target, Steps p.tables e below ((T.setVm vm1).setTop { g with pc := x.handlerPc, stack := [.ref a] }) target → Steps p.tables e below ((T.setTop g).pushFrame (.throwing a)) target := by
  subst hg
  obtain ⟨vm1, b1, b2⟩ := hc_go (e := e) (f := g) (a := a) (u := s) (VmData.ne_statics_of hobj) h1 x suf hx h0 hl hq pre ((T.setTop g).pushFrame (.throwing a)) X.warmed hcell hby
  refine ⟨vm1, X.noted b1, fun target hrest => ?_⟩
  obtain ⟨hgo, hw⟩ := X.here.throwing (g := g) a
  refine Steps.head hgo hw ?_
  rw [stepThread_throwing (frames_entered X.here.top _), (hc_step (s := (T.setTop g).pushFrame (.throwing a)) (r := T.frames.tail) (pc := x.handlerPc) (vm1 := vm1) (fun Q E d acts => (W.findHandler_eq (s := (T.setTop g).pushFrame (.throwing a)) (meth := meth) (code := c) X.method' X.code).trans (by rw [hsplit]; exact b2 Q E d acts))).1]
  obtain ⟨g₀, hfr⟩ := X.frames_eq
  have e2 : ((T.setTop g).pushFrame (.throwing a)) = T.setFrames (.throwing a :: .java g :: below) := by
    rw [State.pushFrame, State.setTop_of_frames _ hfr, State.setFrames_setFrames, State.frames_setFrames _ (State.cur_lt_of_frames hfr)]
  rw [e2]
  rw [State.setTop_of_frames (s := T.setVm vm1) _ hfr] at hrest
  rw [hfr, show (T.setFrames (.throwing a :: .java g :: below)).setVm vm1 = (T.setVm vm1).setFrames (.throwing a :: .java g :: below) from rfl, State.setFrames_setFrames]
  exact hrest
end Caught
