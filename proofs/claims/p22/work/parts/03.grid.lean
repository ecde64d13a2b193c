/-! new T[n][m]: the outer array and its rows, over the machine's own 'make' (the library's law for it lies in Shelf42, which a round doesn't have). -/
/-- the outer array at b of which i rows stand -/
def mg_o (k : ClassId) (N b i : Nat) : Cell := arrV k N (fun j => va_rf (if j < i then some (b + 1 + j) else none))
/-- the state in which i rows stand -/
def mg_s (s : State) (k kc : ClassId) (N M : Nat) (v : Value) : Nat → State
  | 0 => s.pushCell (mg_o k N s.heap.size 0)
  | i + 1 => ((mg_s s k kc N M v i).pushCell (arrV kc M (fun _ => v))).setCell s.heap.size (mg_o k N s.heap.size (i + 1))
theorem mg_o0 (k : ClassId) (N b : Nat) : mg_o k N b 0 = { cls := k, slots := Array.replicate N .null, vm := .none } := by
  rw [arrV_new]; unfold mg_o; congr 1
theorem mg_os (k : ClassId) (N b i : Nat) : (mg_o k N b i).setSlot i (.ref (b + 1 + i)) = mg_o k N b (i + 1) := by
  unfold mg_o
  rw [arrV_store]
  congr 1
  funext j
  unfold updV
  by_cases h : j = i
  · subst h; rw [if_pos rfl, if_pos (Nat.lt_succ_self _)]; rfl
  · rw [if_neg h]
    by_cases h2 : j < i
    · show va_rf (if j < i then some (b + 1 + j) else none) = _
      rw [if_pos h2, if_pos (by omega)]
    · show va_rf (if j < i then some (b + 1 + j) else none) = _
      rw [if_neg h2, if_neg (by omega)]
theorem mg_f (s : State) (k kc : ClassId) (N M : Nat) (v : Value) (i : Nat) : (mg_s s k kc N M v i).heap.size = s.heap.size + 1 + i ∧ (mg_s s k kc N M v i).heap[s.heap.size]? = some (mg_o k N s.heap.size i) ∧ (mg_s s k kc N M v i).vm = s.vm ∧ (mg_s s k kc N M v i).slotsUsed = s.slotsUsed + N + i * M := by
  induction i with
  | zero => exact ⟨by simp [mg_s], by simp [mg_s], rfl, by simp [mg_s, mg_o, arrV_size]⟩
  | succ i ih =>
    obtain ⟨h1, h2, h3, h4⟩ := ih
    have hl : s.heap.size < (mg_s s k kc N M v i).heap.size := by omega
    have h5 : ((mg_s s k kc N M v i).pushCell (arrV kc M (fun _ => v))).heap[s.heap.size]? = some (mg_o k N s.heap.size i) := by rw [State.heap_pushCell_of_lt (h := hl)]; exact h2
    refine ⟨?_, State.heap_setCell_self h5, by simp [mg_s, h3], ?_⟩
    · simp [mg_s, State.setCell, h1]; omega
    · simp [mg_s, h4, arrV_size, Nat.succ_mul]; omega
theorem mg_top (s : State) (g : JFrame) (k kc : ClassId) (N M : Nat) (v : Value) (i : Nat) : mg_s (s.setTop g) k kc N M v i = (mg_s s k kc N M v i).setTop g := by
  induction i with
  | zero => rfl
  | succ i ih => simp only [mg_s, ih, State.heap_setTop, State.pushCell_setTop, State.setCell_setTop]
theorem mg_old (s : State) (k kc : ClassId) (N M : Nat) (v : Value) {a : Addr} (ha : a < s.heap.size) (i : Nat) : (mg_s s k kc N M v i).heap[a]? = s.heap[a]? := by
  induction i with
  | zero => exact State.heap_pushCell_of_lt _ _ ha
  | succ i ih =>
    have h1 := (mg_f s k kc N M v i).1
    show (((mg_s s k kc N M v i).pushCell (arrV kc M (fun _ => v))).setCell s.heap.size _).heap[a]? = _
    rw [State.heap_setCell_other (Nat.ne_of_gt ha), State.heap_pushCell_of_lt (h := Nat.lt_of_lt_of_le ha (by rw [h1]; omega))]
    exact ih
theorem mg_row (s : State) (k kc : ClassId) (N M : Nat) (v : Value) (i j : Nat) (hj : j < i) : (mg_s s k kc N M v i).heap[s.heap.size + 1 + j]? = some (arrV kc M (fun _ => v)) := by
  induction i with
  | zero => exact absurd hj (Nat.not_lt_zero _)
  | succ i ih =>
    have h1 := (mg_f s k kc N M v i).1
    show (((mg_s s k kc N M v i).pushCell (arrV kc M (fun _ => v))).setCell s.heap.size _).heap[s.heap.size + 1 + j]? = _
    rw [State.heap_setCell_other (show s.heap.size ≠ s.heap.size + 1 + j by omega)]
    by_cases h : j < i
    · rw [State.heap_pushCell_of_lt (h := (by omega : s.heap.size + 1 + j < (mg_s s k kc N M v i).heap.size))]
      exact ih h
    · have e : j = i := by omega
      subst e
      rw [← h1]
      exact State.heap_pushCell_size _ _
section MakeTwo
variable {E : CtlPost} {e : Env} {d : Bool} {acts : List Action} {s : State}
theorem mg_new {c comp : ClassId} {k : Class} {type : FieldType} {len : Nat} {init : Value} (hk : s.vm.classes[c]? = some k) (hkind : k.kind = .array comp type) (hlimit : ¬ len > e.platform.arrayLengthLimit) (hheap : ¬ len * componentBytes type > e.platform.maxHeapBytes) (hfit : fits type init = true) (hdef : init.isDefault = true) {Q : Addr → Pre}
    (h1 : s.heap.size < e.platform.maxCells) (h2 : s.slotsUsed + len ≤ e.platform.maxSlots) (hq : Q s.heap.size d acts (s.pushCell (arrV c len (fun _ => init)))) : wp (Jvm.newArray c len init) Q E e d acts s := by
  rw [← arrV_new] at hq
  have hf : ∀ i v, (Array.replicate len init)[i]? = some v → s.fitsSlot c .none i v = true := fun i v hv => by
    rw [Array.getElem?_replicate] at hv
    by_cases hi : i < len
    · rw [if_pos hi] at hv; cases hv; simp [State.fitsSlot, State.slotType?, hk, hkind, hfit]
    · rw [if_neg hi] at hv; cases hv
  have hz : allocActs (Array.replicate len init) s.heap.size acts = acts := by
    unfold allocActs
    refine if_pos ?_
    rw [Array.all_replicate]
    split <;> simp [hdef]
  simp only [Jvm.newArray, Jvm.arrayFits, wp_bind', W.ask, W.ite, hlimit, if_false, wp_pure', W.theClass, hk, hkind, hheap, W.alloc, W.stop, Option.some.injEq, exists_eq_left', Array.size_replicate, hz]
  rw [if_neg (by omega)]
  exact ⟨h1, h2, hf, hq⟩
theorem mg_in {comp cc : ClassId} {kc : Class} {type : FieldType} {m : Int32} (hkc : s.vm.classes[comp]? = some kc) (hkind : kc.kind = .array cc type) (hm : ¬ m < 0) (hl : ¬ m.toNatClampNeg > e.platform.arrayLengthLimit) (hh : ¬ m.toNatClampNeg * componentBytes type > e.platform.maxHeapBytes)
    (hdf : fits type (defaultValue type) = true) (hdd : (defaultValue type).isDefault = true) (h1 : s.heap.size < e.platform.maxCells) (h2 : s.slotsUsed + m.toNatClampNeg ≤ e.platform.maxSlots) {Q : Addr → Pre} (hq : Q s.heap.size d acts (s.pushCell (arrV comp m.toNatClampNeg (fun _ => defaultValue type)))) :
    wp (Op.multianewarray.make comp [m]) Q E e d acts s := by
  rw [Op.multianewarray.make]
  simp only [wp_bind', W.ite, hm, if_false, wp_pure', W.theClass, hkc, hkind, Option.some.injEq, exists_eq_left']
  exact mg_new hkc hkind hl hh hdf hdd h1 h2 hq
theorem mg_both {c comp cc : ClassId} {k kc : Class} {ty : FieldType} {n m : Int32} (hk : s.vm.classes[c]? = some k) (hkind : k.kind = .array comp (.array ty)) (hkc : s.vm.classes[comp]? = some kc) (hkindc : kc.kind = .array cc ty) (hn : ¬ n < 0) (hm : ¬ m < 0)
    (hl1 : ¬ n.toNatClampNeg > e.platform.arrayLengthLimit) (hh1 : ¬ n.toNatClampNeg * componentBytes (.array ty) > e.platform.maxHeapBytes) (hl2 : ¬ m.toNatClampNeg > e.platform.arrayLengthLimit) (hh2 : ¬ m.toNatClampNeg * componentBytes ty > e.platform.maxHeapBytes) (hdf : fits ty (defaultValue ty) = true) (hdd : (defaultValue ty).isDefault = true)
    (hc : s.heap.size + 1 + n.toNatClampNeg ≤ e.platform.maxCells) (hs : s.slotsUsed + n.toNatClampNeg + n.toNatClampNeg * m.toNatClampNeg ≤ e.platform.maxSlots) {Q : Addr → Pre} (hq : ∀ d' acts', Q s.heap.size d' acts' (mg_s s c comp n.toNatClampNeg m.toNatClampNeg (defaultValue ty) n.toNatClampNeg)) :
    wp (Op.multianewarray.make c [n, m]) Q E e d acts s := by
  generalize hN : n.toNatClampNeg = N at *
  have hfind : ([m].find? (· < 0)) = none := by simp [hm]
  rw [Op.multianewarray.make]
  simp only [wp_bind', W.ite, hn, if_false, wp_pure', W.theClass, hk, hkind, Option.some.injEq, exists_eq_left', hN]
  refine mg_new hk hkind hl1 hh1 rfl rfl (by omega) (by omega) ?_
  simp only [hfind]
  rw [ite_self, wp_bind', Std.Legacy.Range.forIn_eq_forIn_range']
  rw [show ([:N] : Std.Legacy.Range).size = N by simp [Std.Legacy.Range.size]]
  show wp (forIn (List.range' 0 N 1) PUnit.unit _) _ E e d acts _
  refine wp_forIn_inv (fun rest u => ∃ i, i + rest.length = N ∧ rest = List.range' i rest.length ∧ u = mg_s s c comp N m.toNatClampNeg (defaultValue ty) i) _ _ ⟨0, by simp, by simp, ?_⟩ ?_ ?_
  · show _ = s.pushCell _
    congr 1
  · rintro x rest u d' acts' Q' ⟨i, hi, hr, rfl⟩ hnext
    rw [List.length_cons, List.range'_succ] at hr
    obtain ⟨rfl, hr2⟩ := List.cons.inj hr
    rw [List.length_cons] at hi
    obtain ⟨f1, f2, f3, f4⟩ := mg_f s c comp N m.toNatClampNeg (defaultValue ty) x
    have hmul : x * m.toNatClampNeg + m.toNatClampNeg ≤ N * m.toNatClampNeg := by
      have := Nat.mul_le_mul_right m.toNatClampNeg (show x + 1 ≤ N by omega)
      rw [Nat.succ_mul] at this; exact this
    simp only [wp_bind']
    refine mg_in (by rw [f3]; exact hkc) hkindc hm hl2 hh2 hdf hdd (by rw [f1]; omega) (by rw [f4]; omega) ?_
    simp only [wp_bind', W.writeLoc, wp_pure']
    have hlt : s.heap.size < (mg_s s c comp N m.toNatClampNeg (defaultValue ty) x).heap.size := by rw [f1]; omega
    refine ⟨mg_o c N s.heap.size x, by rw [State.heap_pushCell_of_lt (h := hlt)]; exact f2, (fun q => by cases q), by show x < (arrV _ _ _).slots.size; rw [arrV_size]; omega, ?_, hnext _ _ _ ⟨x + 1, by omega, hr2, ?_⟩⟩
    · show State.fitsSlot _ c .none _ _ = true
      simp [State.fitsSlot, State.slotType?, f3, hk, hkind]
      rfl
    · rw [f1, mg_os]; rfl
  · rintro u d' acts' ⟨i, hi, -, rfl⟩
    have hi : i = N := by simpa using hi
    subst hi
    simp only [wp_pure']
    exact hq _ _
end MakeTwo
/-- the class of arrays over int[] and the like, as the tables have it -/
def va_AOA (t : FieldType) (U : State) : Prop := (Cond.arrayOver (.array t)).before #[] U = true
theorem mg_over {t : FieldType} {A : Array Value} {s : State} (h : (Cond.arrayOver (.array t)).before A s = true) : ∃ comp k z, s.vm.findClass (FieldType.array t).toString = some comp ∧ (s.vm.classes.findIdx? fun (x : Class) => match x.kind with | .array component _ => component == comp | _ => false) = some k ∧ s.vm.classes[k]? = some z ∧ z.kind = .array comp (.array t) ∧ s.vm.findClass ("[" ++ (FieldType.array t).toString) = some k := by
  simp only [Cond.before, Cond.holds, Cond.value, beq_iff_eq] at h
  cases hc : s.vm.findClass (FieldType.array t).toString with
  | none => simp [hc] at h
  | some comp =>
    simp only [hc, Option.bind_some, Option.bind_eq_some_iff, Option.map_eq_some_iff] at h
    obtain ⟨k, hi, z, hz, hb⟩ := h
    obtain ⟨hlt, hp, -⟩ := Array.findIdx?_eq_some_iff_getElem.mp hi
    have hzz : s.vm.classes[k] = z := (Array.getElem?_eq_some_iff.mp hz).2
    rw [hzz] at hp
    cases hkind : z.kind with
    | array component ty =>
      rw [hkind] at hb hp
      simp at hb hp
      exact ⟨comp, k, z, rfl, hi, hz, by rw [hkind, hp, hb.1], hb.2⟩
    | _ => rw [hkind] at hb; simp at hb
theorem va_AOA.moved {t : FieldType} {u U : State} (hvm : u.vm.Alike U.vm) (h : va_AOA t u) : va_AOA t U := by
  obtain ⟨comp, c, k, h1, h2, h3, h4, h5⟩ := mg_over h
  obtain ⟨k', hk', he⟩ := hvm.2.2 _ _ h3
  have hi : (U.vm.classes.findIdx? fun (x : Class) => match x.kind with | .array component _ => component == comp | _ => false) = some c := by
    have q1 := va_idx_bare u.vm comp
    have q2 := va_idx_bare U.vm comp
    rw [show U.vm.bare = u.vm.bare from (by first | exact hvm.bare_eq | exact hvm.bare_eq.symm)] at q2
    exact (q2.symm.trans q1).trans h2
  have hkind : k'.kind = .array comp (.array t) := by rw [he]; exact h4
  have f1 : U.vm.findClass (FieldType.array t).toString = some comp := by rw [hvm.findClass]; exact h1
  have f2 : U.vm.findClass ("[" ++ (FieldType.array t).toString) = some c := by rw [hvm.findClass]; exact h5
  unfold va_AOA Cond.before Cond.holds
  simp only [Cond.value]
  rw [f1, Option.bind_some]
  generalize hidx : Array.findIdx? _ U.vm.classes = o
  obtain rfl : o = some c := hidx.symm.trans hi
  simp [hk', hkind, f2]
section MakeStand
variable {p : Program} {l : Launch} {e : Env} {R : Room} {s : State} {m : MethodId} {args : Array Value} {below : List Frame} {meth : Method} {c : Code} {T : State} {locs : List Loc} {cells slots : Nat}
theorem mg_stand (X : Stand p l e R s m args below meth c T locs cells slots) (k kc : ClassId) (N M : Nat) (v : Value) (i : Nat) : Stand p l e R s m args below meth c (mg_s T k kc N M v i) (locs ++ (List.range i).map fun j => ⟨T.heap.size, j⟩) (cells + 1 + i) (slots + N + i * M) := by
  induction i with
  | zero =>
    have h := X.pushed (mg_o k N T.heap.size 0)
    unfold mg_o at h
    rw [arrV_size] at h
    simpa [mg_s, mg_o] using h
  | succ i ih =>
    obtain ⟨f1, f2, -, -⟩ := mg_f T k kc N M v i
    have hlt : T.heap.size < (mg_s T k kc N M v i).heap.size := by rw [f1]; omega
    have h := (ih.pushed (arrV kc M (fun _ => v))).stored (a := T.heap.size) (cell := mg_o k N T.heap.size i) (by rw [State.heap_pushCell_of_lt (h := hlt)]; exact f2) i (.ref (T.heap.size + 1 + i))
    rw [arrV_size, mg_os] at h
    rw [show (locs ++ (List.range (i + 1)).map fun j => (⟨T.heap.size, j⟩ : Loc)) = (locs ++ (List.range i).map fun j => (⟨T.heap.size, j⟩ : Loc)) ++ [⟨T.heap.size, i⟩] by simp [List.range_succ, List.append_assoc], show slots + N + (i + 1) * M = slots + N + i * M + M by rw [Nat.succ_mul]; omega]
    exact h
theorem mg_run (X : Stand p l e R s m args below meth c T locs cells slots) (hexec : p.tables.exec = Jvm.exec) {own : String} {index : Nat} {ty : FieldType} (hown : s.vm.findClass own = some m.cls) (hclink : (Cond.classLink own index ("[" ++ (FieldType.array ty).toString)).before args s = true) (hover : va_AOA ty s) (harr : (Cond.arrayClass ty).before args s = true)
    {g : JFrame} (hg : g.method = m) (hdg : decode c.code g.pc = .ok (.multianewarray index 2, 4)) {n k : Int32} {N M : Nat} {rest : List Value} (hstack : g.stack = .int k :: .int n :: rest) (hn : ¬ n < 0) (hk : ¬ k < 0) (hN : n.toNatClampNeg = N) (hM : k.toNatClampNeg = M) (hb1 : N * 4 ≤ 536870912) (hb2 : M * componentBytes ty ≤ 536870912) (hb3 : M ≤ 536870912)
    (hdf : fits ty (defaultValue ty) = true) (hdd : (defaultValue ty).isDefault = true) (hcells : cells + (1 + N) ≤ R.cells) (hslots : slots + (N + N * M) ≤ R.slots) :
    ∃ (vm1 : Vm) (cA comp : ClassId) (kA : Class), s.vm.findClass ("[" ++ (FieldType.array ty).toString) = some cA ∧ s.vm.findClass (FieldType.array ty).toString = some comp ∧ s.vm.classes[cA]? = some kA ∧ kA.kind = .array comp (.array ty) ∧
      Stand p l e R s m args below meth c (mg_s (T.setVm vm1) cA comp N M (defaultValue ty) N) (locs ++ (List.range N).map fun j => ⟨T.heap.size, j⟩) (cells + 1 + N) (slots + N + N * M) ∧
      ∀ target, Steps p.tables e below ((mg_s (T.setVm vm1) cA comp N M (defaultValue ty) N).setTop { g with pc := g.pc + 4, stack := .ref T.heap.size :: rest }) target → Steps p.tables e below (T.setTop g) target := by
  subst hg
  subst hN
  subst hM
  have hpl : e.platform.magicAccessors = ({} : Platform).magicAccessors := by rw [X.admits.platform]
  obtain ⟨comp, cA, kA, hcomp, -, hkA, hkindA, hnameA⟩ := mg_over (A := #[]) hover
  obtain ⟨comp', kC, cc, hcomp', hkC, hkindC⟩ := Cond.arrayClass_spec harr
  obtain rfl : comp' = comp := Option.some.inj (hcomp'.symm.trans hcomp)
  obtain ⟨c0, hfc0, hcl⟩ := Cond.classLink_spec hown hclink e.platform hpl
  cases hnameA.symm.trans hfc0
  obtain ⟨hg1, hwarm1, hready1⟩ := State.classEntry (e := e) X.warmed hcl
  generalize T.vm.noted g.method.cls index (.cls cA) = vm1 at hg1 hwarm1 hready1
  obtain ⟨kA1, hkA1, heA⟩ := hwarm1.alike.2.2 _ _ hkA
  obtain ⟨kC1, hkC1, heC⟩ := hwarm1.alike.2.2 _ _ hkC
  have X1 := X.noted hwarm1
  obtain ⟨hr1, hr2⟩ := X.roomAbove hcells hslots
  refine ⟨vm1, cA, comp', kA, hnameA, hcomp, hkA, hkindA, mg_stand X1 cA comp' _ _ _ _, fun target hrest => ?_⟩
  have hl1 : ¬ n.toNatClampNeg > e.platform.arrayLengthLimit := by rw [Launch.admits_arrayLengthLimit X.admits]; omega
  have hh1 : ¬ n.toNatClampNeg * componentBytes (.array ty) > e.platform.maxHeapBytes := by
    rw [Launch.admits_maxHeapBytes X.admits]; show ¬ n.toNatClampNeg * 4 > 536870912; omega
  have hl2 : ¬ k.toNatClampNeg > e.platform.arrayLengthLimit := by rw [Launch.admits_arrayLengthLimit X.admits]; omega
  have hh2 : ¬ k.toNatClampNeg * componentBytes ty > e.platform.maxHeapBytes := by rw [Launch.admits_maxHeapBytes X.admits]; omega
  jvm_step X.here [hexec, hdg]
  simp only [Op.multianewarray.sem, wp_bind', W.resolveClassAt_links (State.method?_setTop g X.here.top) hg1]
  rw [W.popN, if_neg (by decide)]
  refine ⟨g, State.topJava?_setTop' (s := T.setVm vm1) g X.here.top, [.int n, .int k], rest, rfl, hstack, ?_⟩
  simp only [List.mapM_cons, List.mapM_nil, wp_bind', wp_pure']
  refine mg_both (k := kA1) (kc := kC1) (comp := comp') (cc := cc) (ty := ty) hkA1 (by rw [heA]; exact hkindA) hkC1 (by rw [heC]; exact hkindC) hn hk hl1 hh1 hl2 hh2 hdf hdd (by show T.heap.size + 1 + _ ≤ _; omega) (by show T.slotsUsed + _ + _ ≤ _; omega) (fun d' acts' => ?_)
  have XF := mg_stand X1 cA comp' n.toNatClampNeg k.toNatClampNeg (defaultValue ty) n.toNatClampNeg
  rw [show ((T.setTop g).setVm vm1).setTop { g with stack := rest } = (T.setVm vm1).setTop { g with stack := rest } by show ((T.setVm vm1).setTop g).setTop _ = _; rw [State.setTop_setTop], mg_top]
  simp only [wp_bind', W.mark, W.pushRef, State.topJava?_setTop' _ XF.here.top, Option.some.injEq, exists_eq_left', State.setTop_setTop, State.heap_setTop]
  intro acts
  simp [jvm, XF.here.top]
  exact hrest
end MakeStand
