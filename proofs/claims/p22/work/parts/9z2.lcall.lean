/-! THE CLAIM OUT OF ONE WALK OF THE LAW'S BODY. Your part is whole_start (and what it stands on); all else here is the same for every law, but numbers. -/
def R_law : String := "SoftControllerLaw"
def lw_P (b : Addr) (xs : List Int32) (args : Array Value) (s : State) : Prop := args = #[.ref b] ∧ s.IntsAt b xs ∧ xs.length ≤ 4096 ∧ (Jvm.Cond.and given_1 narrow_1).before args s = true
def lw_Q (_ : Array Value) (s : State) (o : Outcome) (t : State) : Prop := o = .returned (some (.int 1)) ∧ Framed s o t [] 601024 7293034
def lw_Z (below : List Frame) (a : Array Value) (s : State) : State → Prop := fun t => ∃ o, t.status = .running ∧ Ended t below o ∧ lw_Q a s o t
/-- the law's own end, with 1 on the stack, nothing written that was there before, its room as the claim has it -/
theorem lw_ret {p : Program} {l : Launch} {e : Env} {s : State} {m : MethodId} {below : List Frame} {meth : Method} {c : Code} {b : Nat} (hx : p.tables.exec = Jvm.exec) (hb : c.code = code) (hr : meth.sig.returnType = ret) (hlocks : meth.locks = false) {pc : Nat} {H : Heap} {ls : Array Slot} (hdg : decode code pc = .ok (.ireturn, 1)) : W p l e room_1 s m #[Value.ref b] below meth c H [] 601024 7293034 (lw_Z below #[Value.ref b] s) (F0 m pc ls [.int 1]) := by
  intro T hT X
  obtain ⟨fs, hret, hrun, hended, hW, hframe⟩ := X.leave (v := some (.int 1)) (hlocks := hlocks) (fun h => by rw [hr] at h; cases h)
  have hmeth' : T.vm.method? m = some meth := X.method'
  refine ⟨T.setFrames fs, ?_, .returned (some (.int 1)), hrun, hended, rfl, ⟨_, rfl⟩, hW, hframe⟩
  jvm_step X.here [X.here.top, hx, hb, hdg, hmeth', hr, ret, narrow_b1]
  (try refine ⟨rfl, ?_⟩); (try refine ⟨rfl, ?_⟩)
  first | (intro acts; rw [hret _ acts rfl rfl rfl]) | rw [hret _ _ rfl rfl rfl]
  exact Steps.refl _
/-- what holds at the law's entry: the machine, the code, the tables' words (any of lw_tbl by 'hts w (by decide +kernel)'), the script of L ints xs at the cell b, what the Statement gives of the start (any of its parts by flat_of_before) -/
def lw_At (p : Program) (s : State) (m : MethodId) (meth : Method) (c : Code) (b L : Nat) (xs : Nat → Int32) : Prop :=
  p.tables.exec = Jvm.exec ∧ c.code = code ∧ meth.sig.returnType = ret ∧ c.maxLocals = 8 ∧ s.vm.findClass R_law = some m.cls ∧ (∀ w ∈ lw_tbl, w.before #[Value.ref b] s = true) ∧ va_X b L xs s s.heap ∧ b < s.heap.size ∧ meth.locks = false ∧ (Jvm.Cond.and given_1 narrow_1).before #[Value.ref b] s = true
abbrev cL_law : ByteArray := code
/-- the law's surroundings, from its entry on -/
def lw_C (p : Program) (l : Launch) (s : State) (m : MethodId) (meth : Method) (c : Code) (b L : Nat) (xs : Nat → Int32) (D : va_G) (kA : Nat → ClassId) (V : Nat → Nat) (A : Nat → Prop) : Prop :=
  l.stackTraces = false ∧ p.tables.exec = Jvm.exec ∧ c.code = code ∧ meth.sig.returnType = ret ∧ c.maxLocals = 8 ∧ s.vm.findClass RL = some m.cls ∧ (∀ w ∈ Cond.initialized RX11 :: GW, w.before #[Value.ref b] s = true) ∧ (∀ w ∈ GW, w.before #[Value.ref b] s = true) ∧ va_X b L xs s s.heap ∧ b < s.heap.size ∧ ¬ A b ∧ meth.locks = false ∧ EV V A s s.heap ∧ va_K D vwCl (KT kA) s ∧ (∀ q : Nat, s.heap.size ≤ q → A q) ∧ (∀ q, A q → s.heap.size ≤ q) ∧ L ≤ 4096
abbrev LWd (kA : Nat → ClassId) (Zc Zr : Nat → Nat) (o : Nat) (v : CSt) (u : RSt) (f : Nat → Int64) : va_W := OWw kA o f (CW kA Zc v) ++ RW kA Zr u
/-- class, reference and the row of one number stand in the heap -/
def LSw (D : va_G) (kA : Nat → ClassId) (Zc Zr : Nat → Nat) (o : Nat) (A : Nat → Prop) (s : State) (v : CSt) (u : RSt) (f : Nat → Int64) (H : Heap) (locs : List Loc) : Prop := va_P D vwCl (LWd kA Zc Zr o v u f) H ∧ va_D A (LWd kA Zc Zr o v u f) ∧ va_S A s.heap H locs
section LCalls
variable {p : Program} {l : Launch} {e : Env} {s : State} {m : MethodId} {below : List Frame} {meth : Method} {c : Code} {b L : Nat} {xs : Nat → Int32} {D : va_G} {kA : Nat → ClassId} {V Zc Zr : Nat → Nat} {A : Nat → Prop} {o : Nat} {v w : CSt} {u x : RSt} {f : Nat → Int64} {H : Heap} {locs : List Loc} {ls : Array Slot} {Q : State → Prop} {pc cs ss : Nat} {rest : List Value}
theorem LSw.pcw (hS : LSw D kA Zc Zr o A s v u f H locs) : va_P D vwCl (CW kA Zc v) H := vaP_mem hS.1 (fun q h => List.mem_append_left _ (List.mem_cons_of_mem _ h))
theorem LSw.dc (hS : LSw D kA Zc Zr o A s v u f H locs) : va_D A (CW kA Zc v) := vaD_right (w1 := [(o, .inl (kA 1, 1, .inr (.inl f)))]) (w2 := CW kA Zc v) (vaD_left hS.2.1)
theorem LSw.po (hS : LSw D kA Zc Zr o A s v u f H locs) : va_P D vwCl (OWw kA o f (CW kA Zc v)) H := vaP_mem hS.1 (fun q h => List.mem_append_left _ h)
theorem LSw.pr (hS : LSw D kA Zc Zr o A s v u f H locs) : va_P D vwCl (RW kA Zr u) H := vaP_mem hS.1 (fun q h => List.mem_append_right _ h)
theorem LSw.dr (hS : LSw D kA Zc Zr o A s v u f H locs) : va_D A (RW kA Zr u) := vaD_right hS.2.1
section LR
variable {y9 : MethodName} {bytes : ByteArray} {maxL n index f9 l9 : Nat} {rt : Option FieldType} {As st0 : List Value}
theorem lcR_i {r : Int32} (hC : lw_C p l s m meth c b L xs D kA V A) (hS : LSw D kA Zc Zr o A s v u f H locs) (hM : Met l y9 (Cond.code y9 bytes maxL rt :: GW) { frames := f9, cells := 0, slots := 0, locals := l9 } (rPc D kA V Zr As u H.size) (rQi D kA Zr u H.size r x) 0 0 (va_A (RW kA Zr u) H.size)) (hT : GoodIn (Cond.initialized RX11 :: GW) (wsV RL index RX12 y9 (Cond.code y9 bytes maxL rt :: GW))) (hd : y9.cls = RX12 ∧ y9.cls ≠ "java/lang/invoke/MethodHandle" ∧ y9.cls ≠ "java/lang/invoke/VarHandle" ∧ (parseMethodDescriptor y9.desc).map (fun d => d.parameters.length) = some n) (hF : f9 + 1 ≤ room_1.frames) (hL : 8 + (maxL + 11) + l9 ≤ room_1.locals) (hn : As.length = n) (hl : ls.size = 8) (hc : (rest.map fun v => v.category).sum ≤ 8) (hst0 : st0 = As.reverse ++ .ref (Zr 200) :: rest) (hdg : decode code pc = .ok (.invokevirtual index, 3)) (hcs : cs ≤ room_1.cells) (hss : ss ≤ room_1.slots) (kk : ∀ H locs, LSw D kA Zc Zr o A s v x f H locs → W p l e room_1 s m #[Value.ref b] below meth c H locs cs ss Q (F0 m (pc + 3) ls (.int r :: rest))) : W p l e room_1 s m #[Value.ref b] below meth c H locs cs ss Q (F0 m pc ls st0) := by
  subst hst0
  have ⟨hst, hx, hb, hr, hml, hown, hts, hG, hX, hbl, hbA, hlocks, hE, hK, hA, hA2, hL9⟩ := hC
  have hFc := lw_fR hS.2.1 hS.2.2 hA
  refine va_calli (va_runV (As := As) (rest := rest) ⟨hx, hb, hml, hown, hts⟩ hM (cwV n hts hT rfl rfl rfl hd ⟨hF, hL⟩) ⟨aP.blind, va_recv hK hS.pr (ci := 11) (q0 := 0) rfl rfl, aP.pre hE hS.2.2 hS.pr hK hS.dr hFc⟩ rfl hn hl rfl (lv_room hc) hdg ⟨hcs, hss⟩) hS.2.2 (fun q _ h => hFc q h) hFc (fun r0 w0 t H1 locs ht hvm hw hB hz1 hk1 hS1 => ?_)
  obtain ⟨rfl, rfl⟩ := hw
  obtain ⟨hP1, hD1⟩ := hB
  rw [ht] at hP1
  obtain ⟨g1, g2⟩ := lw_jR hS.1 hS.2.1 hk1 hFc hP1 hD1
  exact kk H1 locs ⟨g1, g2, hS1⟩
theorem lcR_l {r : Int64} (hC : lw_C p l s m meth c b L xs D kA V A) (hS : LSw D kA Zc Zr o A s v u f H locs) (hM : Met l y9 (Cond.code y9 bytes maxL rt :: GW) { frames := f9, cells := 0, slots := 0, locals := l9 } (rPc D kA V Zr As u H.size) (rQl D kA Zr u H.size r x) 0 0 (va_A (RW kA Zr u) H.size)) (hT : GoodIn (Cond.initialized RX11 :: GW) (wsV RL index RX12 y9 (Cond.code y9 bytes maxL rt :: GW))) (hd : y9.cls = RX12 ∧ y9.cls ≠ "java/lang/invoke/MethodHandle" ∧ y9.cls ≠ "java/lang/invoke/VarHandle" ∧ (parseMethodDescriptor y9.desc).map (fun d => d.parameters.length) = some n) (hF : f9 + 1 ≤ room_1.frames) (hL : 8 + (maxL + 11) + l9 ≤ room_1.locals) (hn : As.length = n) (hl : ls.size = 8) (hc : (rest.map fun v => v.category).sum ≤ 8) (hst0 : st0 = As.reverse ++ .ref (Zr 200) :: rest) (hdg : decode code pc = .ok (.invokevirtual index, 3)) (hcs : cs ≤ room_1.cells) (hss : ss ≤ room_1.slots) (kk : ∀ H locs, LSw D kA Zc Zr o A s v x f H locs → W p l e room_1 s m #[Value.ref b] below meth c H locs cs ss Q (F0 m (pc + 3) ls (.long r :: rest))) : W p l e room_1 s m #[Value.ref b] below meth c H locs cs ss Q (F0 m pc ls st0) := by
  subst hst0
  have ⟨hst, hx, hb, hr, hml, hown, hts, hG, hX, hbl, hbA, hlocks, hE, hK, hA, hA2, hL9⟩ := hC
  have hFc := lw_fR hS.2.1 hS.2.2 hA
  refine va_calll (va_runV (As := As) (rest := rest) ⟨hx, hb, hml, hown, hts⟩ hM (cwV n hts hT rfl rfl rfl hd ⟨hF, hL⟩) ⟨aP.blind, va_recv hK hS.pr (ci := 11) (q0 := 0) rfl rfl, aP.pre hE hS.2.2 hS.pr hK hS.dr hFc⟩ rfl hn hl rfl (lv_room hc) hdg ⟨hcs, hss⟩) hS.2.2 (fun q _ h => hFc q h) hFc (fun r0 w0 t H1 locs ht hvm hw hB hz1 hk1 hS1 => ?_)
  obtain ⟨rfl, rfl⟩ := hw
  obtain ⟨hP1, hD1⟩ := hB
  rw [ht] at hP1
  obtain ⟨g1, g2⟩ := lw_jR hS.1 hS.2.1 hk1 hFc hP1 hD1
  exact kk H1 locs ⟨g1, g2, hS1⟩
theorem lcR_v (hC : lw_C p l s m meth c b L xs D kA V A) (hS : LSw D kA Zc Zr o A s v u f H locs) (hM : Met l y9 (Cond.code y9 bytes maxL rt :: GW) { frames := f9, cells := 0, slots := 0, locals := l9 } (rPc D kA V Zr As u H.size) (rQv D kA Zr u H.size x) 0 0 (va_A (RW kA Zr u) H.size)) (hT : GoodIn (Cond.initialized RX11 :: GW) (wsV RL index RX12 y9 (Cond.code y9 bytes maxL rt :: GW))) (hd : y9.cls = RX12 ∧ y9.cls ≠ "java/lang/invoke/MethodHandle" ∧ y9.cls ≠ "java/lang/invoke/VarHandle" ∧ (parseMethodDescriptor y9.desc).map (fun d => d.parameters.length) = some n) (hF : f9 + 1 ≤ room_1.frames) (hL : 8 + (maxL + 11) + l9 ≤ room_1.locals) (hn : As.length = n) (hl : ls.size = 8) (hc : (rest.map fun v => v.category).sum ≤ 8) (hst0 : st0 = As.reverse ++ .ref (Zr 200) :: rest) (hdg : decode code pc = .ok (.invokevirtual index, 3)) (hcs : cs ≤ room_1.cells) (hss : ss ≤ room_1.slots) (kk : ∀ H locs, LSw D kA Zc Zr o A s v x f H locs → W p l e room_1 s m #[Value.ref b] below meth c H locs cs ss Q (F0 m (pc + 3) ls rest)) : W p l e room_1 s m #[Value.ref b] below meth c H locs cs ss Q (F0 m pc ls st0) := by
  subst hst0
  have ⟨hst, hx, hb, hr, hml, hown, hts, hG, hX, hbl, hbA, hlocks, hE, hK, hA, hA2, hL9⟩ := hC
  have hFc := lw_fR hS.2.1 hS.2.2 hA
  refine va_callv (va_runV (As := As) (rest := rest) ⟨hx, hb, hml, hown, hts⟩ hM (cwV n hts hT rfl rfl rfl hd ⟨hF, hL⟩) ⟨aP.blind, va_recv hK hS.pr (ci := 11) (q0 := 0) rfl rfl, aP.pre hE hS.2.2 hS.pr hK hS.dr hFc⟩ rfl hn hl rfl (lv_room hc) hdg ⟨hcs, hss⟩) hS.2.2 (fun q _ h => hFc q h) hFc (fun w0 t H1 locs ht hvm hw hB hz1 hk1 hS1 => ?_)
  subst hw
  obtain ⟨hP1, hD1⟩ := hB
  rw [ht] at hP1
  obtain ⟨g1, g2⟩ := lw_jR hS.1 hS.2.1 hk1 hFc hP1 hD1
  exact kk H1 locs ⟨g1, g2, hS1⟩
theorem lcC_i {r : Int32} (hC : lw_C p l s m meth c b L xs D kA V A) (hS : LSw D kA Zc Zr o A s v u f H locs) (hM : Met l y9 (Cond.code y9 bytes maxL rt :: GW) { frames := f9, cells := 0, slots := 0, locals := l9 } (cPc D kA V Zc (.ref (Zc 200) :: As) v H.size) (cQi D kA Zc v H.size r w) 0 0 (va_A (CW kA Zc v) H.size)) (hT : GoodIn (Cond.initialized RX11 :: GW) (wsV RL index RX11 y9 (Cond.code y9 bytes maxL rt :: GW))) (hd : y9.cls = RX11 ∧ y9.cls ≠ "java/lang/invoke/MethodHandle" ∧ y9.cls ≠ "java/lang/invoke/VarHandle" ∧ (parseMethodDescriptor y9.desc).map (fun d => d.parameters.length) = some n) (hF : f9 + 1 ≤ room_1.frames) (hL : 8 + (maxL + 11) + l9 ≤ room_1.locals) (hn : As.length = n) (hl : ls.size = 8) (hc : (rest.map fun v => v.category).sum ≤ 8) (hst0 : st0 = As.reverse ++ .ref (Zc 200) :: rest) (hdg : decode code pc = .ok (.invokevirtual index, 3)) (hcs : cs ≤ room_1.cells) (hss : ss ≤ room_1.slots) (kk : ∀ H locs, LSw D kA Zc Zr o A s w u f H locs → W p l e room_1 s m #[Value.ref b] below meth c H locs cs ss Q (F0 m (pc + 3) ls (.int r :: rest))) : W p l e room_1 s m #[Value.ref b] below meth c H locs cs ss Q (F0 m pc ls st0) := by
  subst hst0
  have ⟨hst, hx, hb, hr, hml, hown, hts, hG, hX, hbl, hbA, hlocks, hE, hK, hA, hA2, hL9⟩ := hC
  have hFc := lw_fC hS.2.1 hS.2.2 hA
  refine va_calli (va_runV (As := As) (rest := rest) ⟨hx, hb, hml, hown, hts⟩ hM (cwV n hts hT rfl rfl rfl hd ⟨hF, hL⟩) ⟨aP.blind, va_recv hK hS.pcw (ci := 10) (q0 := 0) rfl (cw_lit rfl), aP.pre hE hS.2.2 hS.pcw hK hS.dc hFc⟩ rfl hn hl rfl (lv_room hc) hdg ⟨hcs, hss⟩) hS.2.2 (fun q _ h => hFc q h) hFc (fun r0 w0 t H1 locs ht hvm hw hB hz1 hk1 hS1 => ?_)
  obtain ⟨rfl, rfl⟩ := hw
  obtain ⟨-, hP1, hD1⟩ := hB
  rw [ht] at hP1
  obtain ⟨g1, g2⟩ := lw_jC hS.1 hS.2.1 hk1 hFc hP1 hD1
  exact kk H1 locs ⟨g1, g2, hS1⟩
theorem lcC_l {r : Int64} (hC : lw_C p l s m meth c b L xs D kA V A) (hS : LSw D kA Zc Zr o A s v u f H locs) (hM : Met l y9 (Cond.code y9 bytes maxL rt :: GW) { frames := f9, cells := 0, slots := 0, locals := l9 } (cPc D kA V Zc (.ref (Zc 200) :: As) v H.size) (cQl D kA Zc v H.size r w) 0 0 (va_A (CW kA Zc v) H.size)) (hT : GoodIn (Cond.initialized RX11 :: GW) (wsV RL index RX11 y9 (Cond.code y9 bytes maxL rt :: GW))) (hd : y9.cls = RX11 ∧ y9.cls ≠ "java/lang/invoke/MethodHandle" ∧ y9.cls ≠ "java/lang/invoke/VarHandle" ∧ (parseMethodDescriptor y9.desc).map (fun d => d.parameters.length) = some n) (hF : f9 + 1 ≤ room_1.frames) (hL : 8 + (maxL + 11) + l9 ≤ room_1.locals) (hn : As.length = n) (hl : ls.size = 8) (hc : (rest.map fun v => v.category).sum ≤ 8) (hst0 : st0 = As.reverse ++ .ref (Zc 200) :: rest) (hdg : decode code pc = .ok (.invokevirtual index, 3)) (hcs : cs ≤ room_1.cells) (hss : ss ≤ room_1.slots) (kk : ∀ H locs, LSw D kA Zc Zr o A s w u f H locs → W p l e room_1 s m #[Value.ref b] below meth c H locs cs ss Q (F0 m (pc + 3) ls (.long r :: rest))) : W p l e room_1 s m #[Value.ref b] below meth c H locs cs ss Q (F0 m pc ls st0) := by
  subst hst0
  have ⟨hst, hx, hb, hr, hml, hown, hts, hG, hX, hbl, hbA, hlocks, hE, hK, hA, hA2, hL9⟩ := hC
  have hFc := lw_fC hS.2.1 hS.2.2 hA
  refine va_calll (va_runV (As := As) (rest := rest) ⟨hx, hb, hml, hown, hts⟩ hM (cwV n hts hT rfl rfl rfl hd ⟨hF, hL⟩) ⟨aP.blind, va_recv hK hS.pcw (ci := 10) (q0 := 0) rfl (cw_lit rfl), aP.pre hE hS.2.2 hS.pcw hK hS.dc hFc⟩ rfl hn hl rfl (lv_room hc) hdg ⟨hcs, hss⟩) hS.2.2 (fun q _ h => hFc q h) hFc (fun r0 w0 t H1 locs ht hvm hw hB hz1 hk1 hS1 => ?_)
  obtain ⟨rfl, rfl⟩ := hw
  obtain ⟨-, hP1, hD1⟩ := hB
  rw [ht] at hP1
  obtain ⟨g1, g2⟩ := lw_jC hS.1 hS.2.1 hk1 hFc hP1 hD1
  exact kk H1 locs ⟨g1, g2, hS1⟩
theorem lcC_v (hC : lw_C p l s m meth c b L xs D kA V A) (hS : LSw D kA Zc Zr o A s v u f H locs) (hM : Met l y9 (Cond.code y9 bytes maxL rt :: GW) { frames := f9, cells := 0, slots := 0, locals := l9 } (cPc D kA V Zc (.ref (Zc 200) :: As) v H.size) (cQv D kA Zc v H.size w) 0 0 (va_A (CW kA Zc v) H.size)) (hT : GoodIn (Cond.initialized RX11 :: GW) (wsV RL index RX11 y9 (Cond.code y9 bytes maxL rt :: GW))) (hd : y9.cls = RX11 ∧ y9.cls ≠ "java/lang/invoke/MethodHandle" ∧ y9.cls ≠ "java/lang/invoke/VarHandle" ∧ (parseMethodDescriptor y9.desc).map (fun d => d.parameters.length) = some n) (hF : f9 + 1 ≤ room_1.frames) (hL : 8 + (maxL + 11) + l9 ≤ room_1.locals) (hn : As.length = n) (hl : ls.size = 8) (hc : (rest.map fun v => v.category).sum ≤ 8) (hst0 : st0 = As.reverse ++ .ref (Zc 200) :: rest) (hdg : decode code pc = .ok (.invokevirtual index, 3)) (hcs : cs ≤ room_1.cells) (hss : ss ≤ room_1.slots) (kk : ∀ H locs, LSw D kA Zc Zr o A s w u f H locs → W p l e room_1 s m #[Value.ref b] below meth c H locs cs ss Q (F0 m (pc + 3) ls rest)) : W p l e room_1 s m #[Value.ref b] below meth c H locs cs ss Q (F0 m pc ls st0) := by
  subst hst0
  have ⟨hst, hx, hb, hr, hml, hown, hts, hG, hX, hbl, hbA, hlocks, hE, hK, hA, hA2, hL9⟩ := hC
  have hFc := lw_fC hS.2.1 hS.2.2 hA
  refine va_callv (va_runV (As := As) (rest := rest) ⟨hx, hb, hml, hown, hts⟩ hM (cwV n hts hT rfl rfl rfl hd ⟨hF, hL⟩) ⟨aP.blind, va_recv hK hS.pcw (ci := 10) (q0 := 0) rfl (cw_lit rfl), aP.pre hE hS.2.2 hS.pcw hK hS.dc hFc⟩ rfl hn hl rfl (lv_room hc) hdg ⟨hcs, hss⟩) hS.2.2 (fun q _ h => hFc q h) hFc (fun w0 t H1 locs ht hvm hw hB hz1 hk1 hS1 => ?_)
  subst hw
  obtain ⟨-, hP1, hD1⟩ := hB
  rw [ht] at hP1
  obtain ⟨g1, g2⟩ := lw_jC hS.1 hS.2.1 hk1 hFc hP1 hD1
  exact kk H1 locs ⟨g1, g2, hS1⟩
theorem lcC_load {r : Int32} {hh : List (Nat × Nat × Nat × Nat)} (hC : lw_C p l s m meth c b L xs D kA V A) (hS : LSw D kA Zc Zr o A s v u f H locs) (hM : Met l y9 (Cond.codeWith y9 bytes maxL rt hh :: GW) { frames := f9, cells := 1, slots := 6, locals := l9 } (cPc D kA V Zc (.ref (Zc 200) :: As) v H.size) (cQload D kA Zc v H.size r w) 1 6 (va_A (CW kA Zc v) H.size)) (hT : GoodIn (Cond.initialized RX11 :: GW) (wsV RL index RX11 y9 (Cond.codeWith y9 bytes maxL rt hh :: GW))) (hd : y9.cls = RX11 ∧ y9.cls ≠ "java/lang/invoke/MethodHandle" ∧ y9.cls ≠ "java/lang/invoke/VarHandle" ∧ (parseMethodDescriptor y9.desc).map (fun d => d.parameters.length) = some n) (hF : f9 + 1 ≤ room_1.frames) (hL : 8 + (maxL + 11) + l9 ≤ room_1.locals) (hn : As.length = n) (hl : ls.size = 8) (hc : (rest.map fun v => v.category).sum ≤ 8) (hst0 : st0 = As.reverse ++ .ref (Zc 200) :: rest) (hdg : decode code pc = .ok (.invokevirtual index, 3)) (hcs : cs + 1 ≤ room_1.cells) (hss : ss + 6 ≤ room_1.slots) (kk : ∀ H locs, LSw D kA Zc Zr o A s w u f H locs → W p l e room_1 s m #[Value.ref b] below meth c H locs (cs + 1) (ss + 6) Q (F0 m (pc + 3) ls (.int r :: rest))) : W p l e room_1 s m #[Value.ref b] below meth c H locs cs ss Q (F0 m pc ls st0) := by
  subst hst0
  have ⟨hst, hx, hb, hr, hml, hown, hts, hG, hX, hbl, hbA, hlocks, hE, hK, hA, hA2, hL9⟩ := hC
  have hFc := lw_fC hS.2.1 hS.2.2 hA
  refine va_calli (vx_runVW (As := As) (rest := rest) ⟨hx, hb, hml, hown, hts⟩ hM (vx_cwVW n hts hT rfl rfl rfl hd ⟨hF, hL⟩) ⟨aP.blind, va_recv hK hS.pcw (ci := 10) (q0 := 0) rfl (cw_lit rfl), aP.pre hE hS.2.2 hS.pcw hK hS.dc hFc⟩ rfl hn hl rfl (lv_room hc) hdg ⟨hcs, hss⟩) hS.2.2 (fun q _ h => hFc q h) hFc (fun r0 w0 t H1 locs ht hvm hw hB hz1 hk1 hS1 => ?_)
  obtain ⟨rfl, rfl⟩ := hw
  obtain ⟨hP1, hD1⟩ := hB
  rw [ht] at hP1
  obtain ⟨g1, g2⟩ := lw_jC hS.1 hS.2.1 hk1 hFc hP1 hD1
  exact kk H1 locs ⟨g1, g2, hS1⟩
theorem lcH {post : Int32 → (Nat → Int64) → Prop} {hh : List (Nat × Nat × Nat × Nat)} (hC : lw_C p l s m meth c b L xs D kA V A) (hS : LSw D kA Zc Zr o A s v u f H locs) (hM : Met l y9 (Cond.codeWith y9 bytes maxL rt hh :: GW) { frames := f9, cells := 1, slots := 6, locals := l9 } (va_Pc As (aP D (KT kA) V (OWw kA o f (CW kA Zc v)) H.size)) (va_Qi post (fun (g : Nat → Int64) t => aB D (va_A (OWw kA o f (CW kA Zc v)) H.size) (OWw kA o g (CW kA Zc w)) t) (va_A (OWw kA o f (CW kA Zc v)) H.size)) 1 6 (va_A (OWw kA o f (CW kA Zc v)) H.size)) (hT : GoodIn (Cond.initialized RX11 :: GW) (va_wsS RL index y9 (Cond.codeWith y9 bytes maxL rt hh :: GW))) (hd : y9.cls ≠ "java/lang/invoke/MethodHandle" ∧ y9.cls ≠ "java/lang/invoke/VarHandle" ∧ (parseMethodDescriptor y9.desc).map (fun d => d.parameters.length) = some n) (hF : f9 + 1 ≤ room_1.frames) (hL : 8 + (maxL + 11) + l9 ≤ room_1.locals) (hn : As.length = n) (hl : ls.size = 8) (hc : (rest.map fun v => v.category).sum ≤ 8) (hst0 : st0 = As.reverse ++ rest) (hdg : decode code pc = .ok (.invokestatic index, 3)) (hcs : cs + 1 ≤ room_1.cells) (hss : ss + 6 ≤ room_1.slots) (kk : ∀ r g H locs, post r g → LSw D kA Zc Zr o A s w u g H locs → W p l e room_1 s m #[Value.ref b] below meth c H locs (cs + 1) (ss + 6) Q (F0 m (pc + 3) ls (.int r :: rest))) : W p l e room_1 s m #[Value.ref b] below meth c H locs cs ss Q (F0 m pc ls st0) := by
  subst hst0
  have ⟨hst, hx, hb, hr, hml, hown, hts, hG, hX, hbl, hbA, hlocks, hE, hK, hA, hA2, hL9⟩ := hC
  have hFc := va_freeA hS.2.1 hS.2.2 hA
  refine va_calli (vx_runSW (As := As) (rest := rest) ⟨hx, hb, hml, hown, hts⟩ hM (vx_cwSW n hts hT rfl rfl rfl hd ⟨hF, hL⟩) ⟨aP.blind, aP.pre hE hS.2.2 hS.po hK (vaD_left hS.2.1) hFc⟩ rfl hn hl rfl (lv_room hc) hdg ⟨hcs, hss⟩) hS.2.2 (fun q _ h => hFc q h) hFc (fun r0 g0 t H1 locs ht hvm hw hB hz1 hk1 hS1 => ?_)
  obtain ⟨hP1, hD1⟩ := hB
  rw [ht] at hP1
  obtain ⟨g1, g2⟩ := va_joinA hS.1 hS.2.1 hk1 hFc hP1 hD1
  exact kk r0 g0 H1 locs hw ⟨g1, g2, hS1⟩
theorem lcH0 {post : Int32 → Prop} {hh : List (Nat × Nat × Nat × Nat)} (hC : lw_C p l s m meth c b L xs D kA V A) (hS : LSw D kA Zc Zr o A s v u f H locs) (hM : Met l y9 (Cond.codeWith y9 bytes maxL rt hh :: GW) { frames := f9, cells := 1, slots := 6, locals := l9 } (va_Pc As (aP D (KT kA) V (CW kA Zc v) H.size)) (va_Qi (fun (r : Int32) (w0 : CSt) => w0 = w ∧ post r) (fun (w0 : CSt) t => aB D (va_A (CW kA Zc v) H.size) (CW kA Zc w0) t) (va_A (CW kA Zc v) H.size)) 1 6 (va_A (CW kA Zc v) H.size)) (hT : GoodIn (Cond.initialized RX11 :: GW) (va_wsS RL index y9 (Cond.codeWith y9 bytes maxL rt hh :: GW))) (hd : y9.cls ≠ "java/lang/invoke/MethodHandle" ∧ y9.cls ≠ "java/lang/invoke/VarHandle" ∧ (parseMethodDescriptor y9.desc).map (fun d => d.parameters.length) = some n) (hF : f9 + 1 ≤ room_1.frames) (hL : 8 + (maxL + 11) + l9 ≤ room_1.locals) (hn : As.length = n) (hl : ls.size = 8) (hc : (rest.map fun v => v.category).sum ≤ 8) (hst0 : st0 = As.reverse ++ rest) (hdg : decode code pc = .ok (.invokestatic index, 3)) (hcs : cs + 1 ≤ room_1.cells) (hss : ss + 6 ≤ room_1.slots) (kk : ∀ r H locs, post r → LSw D kA Zc Zr o A s w u f H locs → W p l e room_1 s m #[Value.ref b] below meth c H locs (cs + 1) (ss + 6) Q (F0 m (pc + 3) ls (.int r :: rest))) : W p l e room_1 s m #[Value.ref b] below meth c H locs cs ss Q (F0 m pc ls st0) := by
  subst hst0
  have ⟨hst, hx, hb, hr, hml, hown, hts, hG, hX, hbl, hbA, hlocks, hE, hK, hA, hA2, hL9⟩ := hC
  have hFc := lw_fC hS.2.1 hS.2.2 hA
  refine va_calli (vx_runSW (As := As) (rest := rest) ⟨hx, hb, hml, hown, hts⟩ hM (vx_cwSW n hts hT rfl rfl rfl hd ⟨hF, hL⟩) ⟨aP.blind, aP.pre hE hS.2.2 hS.pcw hK hS.dc hFc⟩ rfl hn hl rfl (lv_room hc) hdg ⟨hcs, hss⟩) hS.2.2 (fun q _ h => hFc q h) hFc (fun r0 w0 t H1 locs ht hvm hw hB hz1 hk1 hS1 => ?_)
  obtain ⟨rfl, hpo⟩ := hw
  obtain ⟨hP1, hD1⟩ := hB
  rw [ht] at hP1
  obtain ⟨g1, g2⟩ := lw_jC hS.1 hS.2.1 hk1 hFc hP1 hD1
  exact kk r0 H1 locs hpo ⟨g1, g2, hS1⟩
end LR
theorem lw_bool {cc : ByteArray} {R : Room} {args : Array Value} {a : Int32} (hx : p.tables.exec = Jvm.exec) (hb : c.code = cc) (d0 : decode cc pc = .ok (.ifCond .eq 7, 3)) (d1 : decode cc (pc + 3) = .ok (.iconst 1, 1)) (d2 : decode cc (pc + 4) = .ok (.goto 4, 3)) (d3 : decode cc (pc + 7) = .ok (.iconst 0, 1)) (kk : W p l e R s m args below meth c H locs cs ss Q (F0 m (pc + 8) ls (.int (bzw a) :: rest))) : W p l e R s m args below meth c H locs cs ss Q (F0 m pc ls (.int a :: rest)) := by
  refine lv_if_eq (tgt := pc + 7) hx hb d0 (by omega) (fun h => ?_) (fun h => ?_)
  · rw [show bzw a = 0 from if_pos h] at kk
    exact lv_iconst (v := 0) hx hb d3 (by decide) kk
  · rw [show bzw a = 1 from if_neg h] at kk
    exact lv_iconst (v := 1) hx hb d1 (by decide) (lv_goto (tgt := pc + 8) hx hb d2 (by omega) kk)
end LCalls
