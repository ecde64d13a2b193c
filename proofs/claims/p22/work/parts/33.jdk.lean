abbrev cX5_negative : ByteArray := prog_7_method_7_code
def yX5_negative : MethodName := ⟨RX5, "negative", "(ZJ)J"⟩
def wsX5_negative : List Cond := .code yX5_negative cX5_negative 3 (some .long) :: ([])
theorem dX5_negative_0 : decode cX5_negative 0 = .ok (.iload_n 0, 1) := by decide +kernel
theorem dX5_negative_1 : decode cX5_negative 1 = .ok (.ifCond .eq 8, 3) := by decide +kernel
theorem dX5_negative_4 : decode cX5_negative 4 = .ok (.lload_n 1, 1) := by decide +kernel
theorem dX5_negative_5 : decode cX5_negative 5 = .ok (.lneg, 1) := by decide +kernel
theorem dX5_negative_6 : decode cX5_negative 6 = .ok (.goto 7, 3) := by decide +kernel
theorem dX5_negative_9 : decode cX5_negative 9 = .ok (.lload_n 1, 1) := by decide +kernel
theorem dX5_negative_10 : decode cX5_negative 10 = .ok (.lneg, 1) := by decide +kernel
theorem dX5_negative_11 : decode cX5_negative 11 = .ok (.l2i, 1) := by decide +kernel
theorem dX5_negative_12 : decode cX5_negative 12 = .ok (.i2l, 1) := by decide +kernel
theorem dX5_negative_13 : decode cX5_negative 13 = .ok (.lreturn, 1) := by decide +kernel
def n_neg (w : Int32) (a : Int64) : Int64 := if w = 0 then (-a).toInt32.toInt64 else -a
set_option maxHeartbeats 4000000 in
set_option maxRecDepth 100000 in
theorem c_X5_negative (l : Launch) (w : Int32) (a : Int64) : Met l yX5_negative wsX5_negative ({ frames := 0, cells := 0, slots := 0, locals := 0 }) (va_Pc [.int w, .long a] (fun _ => True)) (vp_Sl (fun rz => rz = n_neg w a)) 0 0 (fun _ => False) := by
  refine Met.ofW (cc := cX5_negative) (maxL := 3) (ret := (some .long)) (by decide) rfl ?_
  intro p e s m args below meth c s₁ Bd hml hv
  obtain ⟨rfl, -⟩ := hv
  have hx := Bd.exec
  have hb := Bd.bytes
  have hr := Bd.returns
  have hts := atoms_spec (ws := wsX5_negative) Bd.pre
  have hown : s.vm.findClass RX5 = some m.cls := findClass_of_methodNamed Bd.named
  have hlocks := Bd.notSynchronized
  have hl := lv_entry ([.int w, .long a]) (n := 3) (Nat.le_of_ble_eq_true rfl)
  rw [lg_entry_eq]
  generalize (lg_sl ([.int w, .long a]) ++ List.replicate (3 - (lg_sl ([.int w, .long a])).length) Slot.unset).toArray = ls at hl ⊢
  have hl : lv_has ls 3 [(0, .int w), (1, .long a)] := hl
  refine lv_iload_n hx hb dX5_negative_0 rfl (lv_at hl 0 rfl) ?_
  refine lv_if_eq (tgt := 9) hx hb dX5_negative_1 (by decide) (fun c_1 => ?_) (fun c_1 => ?_)
  · skip
    refine lv_lload_n hx hb dX5_negative_9 rfl (lv_at hl 1 rfl) ?_
    refine lv_lneg hx hb dX5_negative_10 ?_
    refine lv_l2i (v := (-a).toInt32) hx hb dX5_negative_11 rfl ?_
    refine lv_i2l (v := ((-a).toInt32).toInt64) hx hb dX5_negative_12 rfl ?_
    exact W.lret (v := ((-a).toInt32).toInt64) hx hb hr (fun t ht hW => ⟨_, rfl, (by first | rfl | (simp [n_neg, c_1]; done) | (simp_all [n_neg]; done) | (unfold n_neg; (repeat split) <;> simp_all; done)), ht⟩) (fun _ h => nomatch h) dX5_negative_13
  · skip
    refine lv_lload_n hx hb dX5_negative_4 rfl (lv_at hl 1 rfl) ?_
    refine lv_lneg hx hb dX5_negative_5 ?_
    refine lv_goto (tgt := 13) hx hb dX5_negative_6 (by decide) ?_
    exact W.lret (v := -a) hx hb hr (fun t ht hW => ⟨_, rfl, (by first | rfl | (simp [n_neg, c_1]; done) | (simp_all [n_neg]; done) | (unfold n_neg; (repeat split) <;> simp_all; done)), ht⟩) (fun _ h => nomatch h) dX5_negative_13
def RJ7 : String := "java/util/Arrays"
abbrev cJ7_fill_53178 : ByteArray := prog_31_method_103_code
def yJ7_fill_53178 : MethodName := ⟨RJ7, "fill", "([II)V"⟩
theorem dJ7_fill_53178_0 : decode cJ7_fill_53178 0 = .ok (.iconst 0, 1) := by decide +kernel
theorem dJ7_fill_53178_1 : decode cJ7_fill_53178 1 = .ok (.istore_n 2, 1) := by decide +kernel
theorem dJ7_fill_53178_2 : decode cJ7_fill_53178 2 = .ok (.aload_n 0, 1) := by decide +kernel
theorem dJ7_fill_53178_3 : decode cJ7_fill_53178 3 = .ok (.arraylength, 1) := by decide +kernel
theorem dJ7_fill_53178_4 : decode cJ7_fill_53178 4 = .ok (.istore_n 3, 1) := by decide +kernel
theorem dJ7_fill_53178_5 : decode cJ7_fill_53178 5 = .ok (.iload_n 2, 1) := by decide +kernel
theorem dJ7_fill_53178_6 : decode cJ7_fill_53178 6 = .ok (.iload_n 3, 1) := by decide +kernel
theorem dJ7_fill_53178_7 : decode cJ7_fill_53178 7 = .ok (.if_icmp .ge 13, 3) := by decide +kernel
theorem dJ7_fill_53178_10 : decode cJ7_fill_53178 10 = .ok (.aload_n 0, 1) := by decide +kernel
theorem dJ7_fill_53178_11 : decode cJ7_fill_53178 11 = .ok (.iload_n 2, 1) := by decide +kernel
theorem dJ7_fill_53178_12 : decode cJ7_fill_53178 12 = .ok (.iload_n 1, 1) := by decide +kernel
theorem dJ7_fill_53178_13 : decode cJ7_fill_53178 13 = .ok (.iastore, 1) := by decide +kernel
theorem dJ7_fill_53178_14 : decode cJ7_fill_53178 14 = .ok (.iinc 2 1, 3) := by decide +kernel
theorem dJ7_fill_53178_17 : decode cJ7_fill_53178 17 = .ok (.goto (-12), 3) := by decide +kernel
theorem dJ7_fill_53178_20 : decode cJ7_fill_53178 20 = .ok (.return_, 1) := by decide +kernel
/-- a body of a class of which other methods are run by the machine itself -/
theorem Met.ofWF {l : Launch} {y : MethodName} {ws ws' : List Cond} {rm : Room} {Pc : Array Value → State → Prop} {Qc : Array Value → State → Outcome → State → Prop} {mc ms : Nat} {free : Addr → Prop} {cc : ByteArray} {maxL : Nat} {ret : Option FieldType}
    (hy : plainFor y = true) (hw : ws = Cond.code y cc maxL ret :: ws')
    (body : ∀ p e s m args below meth c s₁, BodyLoose p l y (headSpec ws rm) cc maxL ret e s m args below meth c s₁ → c.maxLocals = maxL → Pc args s →
      W p l e (headSpec ws rm).room s m args below meth c s.heap [] 0 0 (MQ below Qc args s mc ms free) (entryFrame m args maxL)) : Met l y ws rm Pc Qc mc ms free := by
  refine MetFree.of_bodySF (code := cc) (maxLocals := maxL) (ret := ret) hy ?_ ?_
  · intro args s m h hn
    obtain ⟨meth, c, h1, h2, h3, h4, h5, h6, -, -⟩ := Cond.code_spec hn (atoms_spec (ws := ws) h _ (by rw [hw]; exact List.mem_cons_self))
    exact ⟨meth, c, h1, h2, h3, h4, h5, h6⟩
  · intro p e s m args below meth c s₁ B hml hP _
    have hh0 : s₁.heap = s.heap := by rw [B.state]; rfl
    obtain ⟨t, a1, o, b1, b2, b3⟩ := body p e s m args below meth c s₁ B hml hP s₁ hh0 (Stand.of_body B)
    exact ⟨t, o, a1, b1, b2, ⟨b3.1, b3.2⟩⟩
/-- what fill leaves when it has come to k -/
def fl (f : Nat → Int32) (v : Int32) (k : Nat) : Nat → Int32 := fun j => if j < k then v else f j
theorem fl_up (f : Nat → Int32) (v : Int32) (k : Nat) : upd (fl f v k) k v = fl f v (k + 1) := by
  funext j
  unfold upd fl
  by_cases h : j = k
  · subst h; rw [if_pos rfl, if_pos (Nat.lt_succ_self _)]
  · rw [if_neg h]
    by_cases h2 : j < k
    · rw [if_pos h2, if_pos (by omega)]
    · rw [if_neg h2, if_neg (by omega)]
theorem fl_0 (f : Nat → Int32) (v : Int32) : fl f v 0 = f := by
  funext j
  unfold fl
  rw [if_neg (Nat.not_lt_zero _)]
set_option maxHeartbeats 4000000 in
theorem k_fill (l : Launch) (D : va_G) (kA : Nat → ClassId) (V : Nat → Nat) (a n : Nat) (f : Nat → Int32) (v : Int32) (sz : Nat) (hn : n < 2147483648) : Met l yJ7_fill_53178 (Cond.code yJ7_fill_53178 cJ7_fill_53178 4 none :: GW) { frames := 0, cells := 0, slots := 0, locals := 0 } (va_Pc [.ref a, .int v] (aP D (KT kA) V [(a, .inl (kA 0, n, .inl f))] sz)) (va_Qv (fun (_ : Unit) => True) (fun _ t => aB D (va_A [(a, .inl (kA 0, n, .inl f))] sz) [(a, .inl (kA 0, n, .inl (fl f v n)))] t) (va_A [(a, .inl (kA 0, n, .inl f))] sz)) 0 0 (va_A [(a, .inl (kA 0, n, .inl f))] sz) := by
  refine Met.ofW (cc := cJ7_fill_53178) (maxL := 4) (ret := none) (by decide) rfl ?_
  intro p e s m args below meth c s₁ Bd hml hv
  obtain ⟨rfl, hsz, hP, hK, hD0, hE⟩ := hv
  have hx := Bd.exec
  have hb := Bd.bytes
  have hr := Bd.returns
  have hlocks := Bd.notSynchronized
  subst hsz
  have hD := hD0.self (sz := s.heap.size)
  generalize hAe : va_A [(a, .inl (kA 0, n, .inl f))] s.heap.size = A at hD hE ⊢
  have hS : va_S A s.heap s.heap [] := va_S.rf
  have hP : va_P D vwCl [(a, .inl (kA 0, n, .inl f))] s.heap := hP
  have hl := lv_entry ([.ref a, .int v]) (n := 4) (Nat.le_of_ble_eq_true rfl)
  rw [lg_entry_eq]
  generalize (lg_sl ([.ref a, .int v]) ++ List.replicate (4 - (lg_sl ([.ref a, .int v])).length) Slot.unset).toArray = ls at hl ⊢
  have hl : lv_has ls 4 [(0, .ref a), (1, .int v)] := hl
  refine lv_iconst (v := 0) hx hb dJ7_fill_53178_0 (by decide) ?_
  refine lv_istore_n (lv' := [(2, .int 0), (0, .ref a), (1, .int v)]) hx hb dJ7_fill_53178_1 rfl hl (by decide) rfl (fun ls hl => ?_)
  refine lv_aload_n hx hb dJ7_fill_53178_2 rfl (lv_at hl 1 rfl) ?_
  refine va_alen (v := nI n) hx hb hK hP 0 0 rfl rfl rfl dJ7_fill_53178_3 ?_
  refine lv_istore_n (lv' := [(3, .int (nI n)), (2, .int 0), (0, .ref a), (1, .int v)]) hx hb dJ7_fill_53178_4 rfl hl (by decide) rfl (fun ls hl => ?_)
  have hloop : ∀ (d k : Nat), k + d = n → ∀ (H : Heap) (locs : List Loc) (ls : Array Slot), va_P D vwCl [(a, .inl (kA 0, n, .inl (fl f v k)))] H → va_D A [(a, .inl (kA 0, n, .inl (fl f v k)))] → va_S A s.heap H locs → lv_has ls 4 [(3, .int (nI n)), (2, .int (nI k)), (0, .ref a), (1, .int v)] → W p l e (headSpec (Cond.code yJ7_fill_53178 cJ7_fill_53178 4 none :: GW) ({ frames := 0, cells := 0, slots := 0, locals := 0 })).room s m ([.ref a, .int v] : List Value).toArray below meth c H locs 0 0 (MQ below (va_Qv (fun (_ : Unit) => True) (fun _ t => aB D A [(a, .inl (kA 0, n, .inl (fl f v n)))] t) A) ([.ref a, .int v] : List Value).toArray s 0 0 A) (F0 m 5 ls []) := by
    intro d
    induction d with
    | zero =>
      intro k hk H locs ls hP hD hS hl
      obtain rfl : k = n := by omega
      refine lv_iload_n hx hb dJ7_fill_53178_5 rfl (lv_at hl 1 rfl) ?_
      refine lv_iload_n hx hb dJ7_fill_53178_6 rfl (lv_at hl 0 rfl) ?_
      refine lv_icmp_ge (tgt := 20) hx hb dJ7_fill_53178_7 (by decide) (fun c_1 => ?_) (fun c_1 => absurd (Int32.le_refl _) c_1)
      exact W.vret hx hb hr (fun t ht hW => ⟨⟨(), rfl, trivial, by rw [ht]; exact hP, hD⟩, hS.F ht⟩) hS.2.2 dJ7_fill_53178_20
    | succ d ih =>
      intro k hk H locs ls hP hD hS hl
      refine lv_iload_n hx hb dJ7_fill_53178_5 rfl (lv_at hl 1 rfl) ?_
      refine lv_iload_n hx hb dJ7_fill_53178_6 rfl (lv_at hl 0 rfl) ?_
      refine lv_icmp_ge (tgt := 20) hx hb dJ7_fill_53178_7 (by decide) (fun c_1 => absurd ((nI_leI (a := n) (b := k) (by omega) (by omega)).mp c_1) (by omega)) (fun c_1 => ?_)
      refine lv_aload_n hx hb dJ7_fill_53178_10 rfl (lv_at hl 2 rfl) ?_
      refine lv_iload_n hx hb dJ7_fill_53178_11 rfl (lv_at hl 1 rfl) ?_
      refine lv_iload_n hx hb dJ7_fill_53178_12 rfl (lv_at hl 3 rfl) ?_
      refine va_iast hx hb hK hP hD hS 0 0 rfl rfl (vp_in_nI (show k < n by omega) (by omega)) dJ7_fill_53178_13 (fun H locs hP hD hS => ?_)
      rw [show (nI k).toNatClampNeg = k from nI_clamp (by omega)] at hP hD
      have hP : va_P D vwCl [(a, .inl (kA 0, n, .inl (upd (fl f v k) k v)))] H := hP
      have hD : va_D A [(a, .inl (kA 0, n, .inl (upd (fl f v k) k v)))] := hD
      rw [fl_up] at hP hD
      refine lv_iinc (v := nI k + 1) (lv' := [(2, .int (nI k + 1)), (3, .int (nI n)), (0, .ref a), (1, .int v)]) hx hb dJ7_fill_53178_14 hl (k := 1) rfl rfl (by decide) rfl (fun ls hl => ?_)
      refine lv_goto (tgt := 5) hx hb dJ7_fill_53178_17 (by decide) ?_
      rw [nI_1] at hl
      exact ih (k + 1) (by omega) H locs ls hP hD hS (lv_sub hl [1, 0, 2, 3] rfl)
  rw [← fl_0 f v] at hP hD
  exact hloop n 0 (by omega) s.heap [] ls hP hD hS hl
section CFill
variable {p : Program} {l : Launch} {e : Env} {R : Room} {s : State} {m : MethodId} {args : Array Value} {below : List Frame} {meth : Method} {c : Code} {H : Heap} {locs : List Loc} {Q : State → Prop}
variable {cc : ByteArray} {pc nL : Nat} {c0 : Cond} {own : String} {ls : Array Slot} {rest : List Value} {D : va_G} {kA : Nat → ClassId} {V Z : Nat → Nat} {A : Nat → Prop} {u w : CSt}
theorem cs_one {q a : Nat} {x0 x1 : va_E} {H1 : Heap} {locs1 : List Loc} (hS : CS D kA Z A s u H locs) (hq : (CW kA Z u)[q]? = some (a, x0)) (he : (CW kA Z u).set q (a, x1) = CW kA Z w) (hP1 : va_P D vwCl [(a, x1)] H1) (hk1 : ∀ x : Nat, x < H.size → ¬ va_A [(a, x0)] H.size x → H1[x]? = H[x]?) (hS1 : va_S A s.heap H1 locs1) : CS D kA Z A s w H1 locs1 := by
  have hlen : q < (CW kA Z u).length := (List.getElem?_eq_some_iff.mp hq).1
  have hget : ∀ (k : Nat) (x : Nat × va_E), (CW kA Z w)[k]? = some x → (k = q ∧ x = (a, x1)) ∨ (k ≠ q ∧ (CW kA Z u)[k]? = some x) := by
    intro k x hx
    rw [← he, List.getElem?_set] at hx
    by_cases hk : q = k
    · subst hk
      rw [if_pos rfl, if_pos hlen] at hx
      exact Or.inl ⟨rfl, (Option.some.inj hx).symm⟩
    · rw [if_neg hk] at hx
      exact Or.inr ⟨fun h => hk h.symm, hx⟩
  refine ⟨fun k x hx => ?_, ⟨fun i j x y hi hj hxy => ?_, fun k x hx => ?_⟩, hS1⟩
  · rcases hget k x hx with ⟨rfl, rfl⟩ | ⟨hk, hx⟩
    · exact hP1 0 _ rfl
    · have hlt := (hS.1 k x hx).lt
      refine (hS.1 k x hx).kept (hk1 x.1 hlt ?_)
      rintro (⟨k9, e9, h9⟩ | h9)
      · cases k9 with
        | zero =>
          have h8 : (a, x0) = (x.1, e9) := Option.some.inj h9
          exact hk (hS.2.1.1 k q x (a, x0) hx hq (by rw [show a = x.1 from congrArg Prod.fst h8]))
        | succ k9 => cases h9
      · omega
  · rcases hget i x hi with ⟨rfl, rfl⟩ | ⟨hk, hx⟩ <;> rcases hget j y hj with ⟨rfl, rfl⟩ | ⟨hk2, hy⟩
    · rfl
    · exact hS.2.1.1 _ _ (a, x0) y hq hy hxy
    · exact hS.2.1.1 _ _ x (a, x0) hx hq hxy
    · exact hS.2.1.1 _ _ x y hx hy hxy
  · rcases hget k x hx with ⟨rfl, rfl⟩ | ⟨hk, hx⟩
    · exact hS.2.1.2 _ (a, x0) hq
    · exact hS.2.1.2 k x hx
theorem cfill {q a n index : Nat} {f : Nat → Int32} {v : Int32} (X : CC p s m args c cc nL c0 own D kA V A) (hS : CS D kA Z A s u H locs) (hq : (CW kA Z u)[q]? = some (a, .inl (kA 0, n, .inl f))) (he : (CW kA Z u).set q (a, .inl (kA 0, n, .inl (fl f v n))) = CW kA Z w) (hn : n < 2147483648)
    (hT : GoodIn (c0 :: GW) (va_wsS own index yJ7_fill_53178 (Cond.code yJ7_fill_53178 cJ7_fill_53178 4 none :: GW))) (hF : 1 ≤ R.frames) (hL : 23 ≤ R.locals) (hl : ls.size = nL) (hc : (rest.map fun v => v.category).sum ≤ 8) (hdg : decode cc pc = .ok (.invokestatic index, 3))
    (kk : ∀ H locs, CS D kA Z A s w H locs → W p l e R s m args below meth c H locs 0 0 Q (F0 m (pc + 3) ls rest)) : W p l e R s m args below meth c H locs 0 0 Q (F0 m pc ls (.int v :: .ref a :: rest)) := by
  have hPc : va_P D vwCl [(a, .inl (kA 0, n, .inl f))] H := hS.1.sub [q] (by simp [hq])
  have hDc : va_D A [(a, .inl (kA 0, n, .inl f))] := hS.2.1.sub [q] rfl (by simp [hq])
  have hFc := va_free (wc := [(a, .inl (kA 0, n, .inl f))]) hS.2.1 hS.2.2 X.2.2.2 [q] (by simp [hq])
  refine va_callv (va_runS (As := [.ref a, .int v]) (rest := rest) X.1 (k_fill l D kA V a n f v H.size hn) (va_cwS 2 X.1.2.2.2.2 hT rfl rfl rfl (by decide +kernel) ⟨hF, hL⟩) ⟨aP.blind, aP.pre X.2.2.1 hS.2.2 hPc X.2.1 hDc hFc⟩ rfl rfl hl rfl (lv_room hc) hdg ⟨Nat.zero_le _, Nat.zero_le _⟩) hS.2.2 (fun q _ h => hFc q h) hFc (fun u0 t H1 locs ht hvm hw hB hz1 hk1 hS1 => ?_)
  obtain ⟨hP1, hD1⟩ := hB
  rw [ht] at hP1
  exact kk H1 locs (cs_one hS hq he hP1 hk1 hS1)
end CFill
theorem xat_X9_IllegalStateException : ∀ w ∈ vx_atS RX9 83 "java/lang/IllegalStateException" ["java/lang/RuntimeException", "java/lang/Exception"], w ∈ GW ∨ w ∈ NWL := xat_of (by decide +kernel)
theorem xgo_X9_IllegalStateException : ∀ w ∈ Cond.classLink RX9 79 "java/lang/IllegalStateException" :: Cond.initialized "java/lang/IllegalStateException" :: vx_atS RX9 83 "java/lang/IllegalStateException" ["java/lang/RuntimeException", "java/lang/Exception"], vx_ot w = true := by decide +kernel
section CThrow
variable {p : Program} {l : Launch} {e : Env} {R : Room} {s : State} {m : MethodId} {args : Array Value} {below : List Frame} {meth : Method} {c : Code} {H : Heap} {locs : List Loc} {Q : State → Prop}
variable {cc : ByteArray} {pc nL : Nat} {c0 : Cond} {own : String} {ls : Array Slot} {rest : List Value} {D : va_G} {kA : Nat → ClassId} {V Z : Nat → Nat} {A : Nat → Prop} {u w : CSt}

theorem cx_throw {β : Type} {y : Sum Nat β} {Qc : Array Value → State → Outcome → State → Prop} {x : Nat} (hexec : p.tables.exec = Jvm.exec) (hb : c.code = cc) (hl : l.stackTraces = false) {cls text : String} {names : List String} {ik is ic mc ms sa : Nat} (hown : s.vm.findClass own = some m.cls) (hcls : Bundle.fit cls = true) (hnames : ∀ n ∈ names, Bundle.fit n = true) (X : CC p s m args c cc nL c0 own D kA V (va_A (CW kA Z u) s.heap.size)) (hS : CS D kA Z (va_A (CW kA Z u) s.heap.size) s w H locs) (hy : y = .inl x) (hxn : exN x = cls) (hk : Cond.classLink own ik cls ∈ GW) (hini : Cond.initialized cls ∈ GW) (hstr : vk_R own is text sa s) (hat : ∀ w ∈ vx_atS own ic cls names, w ∈ GW ∨ w ∈ NWL) (hgood : ∀ w ∈ Cond.classLink own ik cls :: Cond.initialized cls :: vx_atS own ic cls names, vx_ot w = true) (hsize : ls.size = c.maxLocals) (d0 : decode cc pc = .ok (.new ik, 3)) (d3 : decode cc (pc + 3) = .ok (.dup, 1)) (d4 : decode cc (pc + 4) = .ok (.ldc is, 2)) (d6 : decode cc (pc + 6) = .ok (.invokespecial ic, 3)) (d9 : decode cc (pc + 9) = .ok (.athrow, 1)) (hout : ∀ x ∈ c.exceptionTable.toList, False) (hRframes : names.length + 3 < R.frames) (hRlocals : (rest.map fun v => v.category).sum + (13 * (names.length + 1) + 43) ≤ R.locals) (hRcells : 0 + 1 ≤ R.cells) (hRslots : 0 + 6 ≤ R.slots) (hlocks : meth.locks = false) (hc : 0 + 1 ≤ mc) (hs : 0 + 6 ≤ ms) : W p l e R s m args below meth c H locs 0 0 (vx_MQ below Qc (cXc D kA Z u s.heap.size y w) args s mc ms (va_A (CW kA Z u) s.heap.size)) (F0 m pc ls rest) := by
  obtain ⟨⟨hx, hb1, hml, hown1, hts⟩, hK, hE, hA⟩ := X
  have hG : ∀ w ∈ GW, w.before args s = true := fun w h => hts w (List.mem_cons_of_mem _ h)
  exact vx_throwS hexec hb hl hown hcls hnames (hG _ hk) (hG _ hini) hstr (fun w hw => (hat w hw).elim (fun h => hG w h) (fun h => by
    have hn := (List.mem_filter.mp h).2
    have h1 := hE.1 w h
    cases w <;> first | exact va_Nw.use rfl h1 | cases hn)) hgood hE.2.2.2.2.2.2.2.2.1 hE.2.2.2.2.2.2.2.2.2.1 hS.2.2 hsize d0 d3 d4 d6 d9 (fun x hx => (hout x hx).elim) hRframes hRlocals hRcells hRslots hlocks
    (fun t _ h2 h3 => ⟨w, rfl, ⟨⟨x, hy, hxn.symm⟩, hS.1.kept (fun k z hz => h3 z.1 ((hS.1 k z hz).lt)), hS.2.1⟩, Nat.le_trans hS.2.2.1 h2, fun q hq hn => (h3 q (Nat.lt_of_lt_of_le hq hS.2.2.1)).trans (hS.2.2.2.1 q hq hn)⟩) hS.2.2.2.2 hc hs
theorem cx_throwW {β : Type} {y : Sum Nat β} {Qc : Array Value → State → Outcome → State → Prop} {x : Nat} (hexec : p.tables.exec = Jvm.exec) (hb : c.code = cc) (hl : l.stackTraces = false) {cls text : String} {names : List String} {ik is ic mc ms sa : Nat} (hown : s.vm.findClass own = some m.cls) (hcls : Bundle.fit cls = true) (hnames : ∀ n ∈ names, Bundle.fit n = true) (X : CC p s m args c cc nL c0 own D kA V (va_A (CW kA Z u) s.heap.size)) (hS : CS D kA Z (va_A (CW kA Z u) s.heap.size) s w H locs) (hy : y = .inl x) (hxn : exN x = cls) (hk : Cond.classLink own ik cls ∈ GW) (hini : Cond.initialized cls ∈ GW) (hstr : vk_R own is text sa s) (hat : ∀ w ∈ vx_atS own ic cls names, w ∈ GW ∨ w ∈ NWL) (hgood : ∀ w ∈ Cond.classLink own ik cls :: Cond.initialized cls :: vx_atS own ic cls names, vx_ot w = true) (hsize : ls.size = c.maxLocals) (d0 : decode cc pc = .ok (.new ik, 3)) (d3 : decode cc (pc + 3) = .ok (.dup, 1)) (d4 : decode cc (pc + 4) = .ok (.ldc_w is, 3)) (d6 : decode cc (pc + 7) = .ok (.invokespecial ic, 3)) (d9 : decode cc (pc + 10) = .ok (.athrow, 1)) (hout : ∀ x ∈ c.exceptionTable.toList, False) (hRframes : names.length + 3 < R.frames) (hRlocals : (rest.map fun v => v.category).sum + (13 * (names.length + 1) + 43) ≤ R.locals) (hRcells : 0 + 1 ≤ R.cells) (hRslots : 0 + 6 ≤ R.slots) (hlocks : meth.locks = false) (hc : 0 + 1 ≤ mc) (hs : 0 + 6 ≤ ms) : W p l e R s m args below meth c H locs 0 0 (vx_MQ below Qc (cXc D kA Z u s.heap.size y w) args s mc ms (va_A (CW kA Z u) s.heap.size)) (F0 m pc ls rest) := by
  obtain ⟨⟨hx, hb1, hml, hown1, hts⟩, hK, hE, hA⟩ := X
  have hG : ∀ w ∈ GW, w.before args s = true := fun w h => hts w (List.mem_cons_of_mem _ h)
  exact vx_throwSW hexec hb hl hown hcls hnames (hG _ hk) (hG _ hini) hstr (fun w hw => (hat w hw).elim (fun h => hG w h) (fun h => by
    have hn := (List.mem_filter.mp h).2
    have h1 := hE.1 w h
    cases w <;> first | exact va_Nw.use rfl h1 | cases hn)) hgood hE.2.2.2.2.2.2.2.2.1 hE.2.2.2.2.2.2.2.2.2.1 hS.2.2 hsize d0 d3 d4 d6 d9 (fun x hx => (hout x hx).elim) hRframes hRlocals hRcells hRslots hlocks
    (fun t _ h2 h3 => ⟨w, rfl, ⟨⟨x, hy, hxn.symm⟩, hS.1.kept (fun k z hz => h3 z.1 ((hS.1 k z hz).lt)), hS.2.1⟩, Nat.le_trans hS.2.2.1 h2, fun q hq hn => (h3 q (Nat.lt_of_lt_of_le hq hS.2.2.1)).trans (hS.2.2.2.1 q hq hn)⟩) hS.2.2.2.2 hc hs
theorem cx_throwN {β : Type} {y : Sum Nat β} {Qc : Array Value → State → Outcome → State → Prop} {x : Nat} (hexec : p.tables.exec = Jvm.exec) (hb : c.code = cc) (hl : l.stackTraces = false) {cls text : String} {Y0 : String} {r : List String} {ik is ic mc ms sa ix : Nat} {rx : ByteArray} (x0 : decode rx 0 = .ok (.aload_n 0, 1)) (x1 : decode rx 1 = .ok (.aload_n 1, 1)) (x2 : decode rx 2 = .ok (.invokespecial ix, 3)) (x5 : decode rx 5 = .ok (.return_, 1)) (hown : s.vm.findClass own = some m.cls) (hcls : Bundle.fit cls = true) (hY0 : Bundle.fit Y0 = true) (hnames : ∀ n ∈ r, Bundle.fit n = true) (X : CC p s m args c cc nL c0 own D kA V (va_A (CW kA Z u) s.heap.size)) (hS : CS D kA Z (va_A (CW kA Z u) s.heap.size) s w H locs) (hy : y = .inl x) (hxn : exN x = cls) (hk : Cond.classLink own ik cls ∈ GW) (hini : Cond.initialized cls ∈ GW) (hstr : vk_R own is text sa s) (hat : ∀ w ∈ hn_at own ic cls ix rx Y0 r, w ∈ GW ∨ w ∈ NWL) (hgood : ∀ w ∈ Cond.classLink own ik cls :: Cond.initialized cls :: hn_at own ic cls ix rx Y0 r, vx_ot w = true) (hsize : ls.size = c.maxLocals) (d0 : decode cc pc = .ok (.new ik, 3)) (d3 : decode cc (pc + 3) = .ok (.dup, 1)) (d4 : decode cc (pc + 4) = .ok (.ldc is, 2)) (d6 : decode cc (pc + 6) = .ok (.invokespecial ic, 3)) (d9 : decode cc (pc + 9) = .ok (.athrow, 1)) (hout : ∀ x ∈ c.exceptionTable.toList, False) (hRframes : (Y0 :: r).length + 3 < R.frames) (hRlocals : (rest.map fun v => v.category).sum + (13 * ((Y0 :: r).length + 1) + 43) ≤ R.locals) (hRcells : 0 + 1 ≤ R.cells) (hRslots : 0 + 6 ≤ R.slots) (hlocks : meth.locks = false) (hc : 0 + 1 ≤ mc) (hs : 0 + 6 ≤ ms) : W p l e R s m args below meth c H locs 0 0 (vx_MQ below Qc (cXc D kA Z u s.heap.size y w) args s mc ms (va_A (CW kA Z u) s.heap.size)) (F0 m pc ls rest) := by
  obtain ⟨⟨hx, hb1, hml, hown1, hts⟩, hK, hE, hA⟩ := X
  have hG : ∀ w ∈ GW, w.before args s = true := fun w h => hts w (List.mem_cons_of_mem _ h)
  exact hn_throwS hexec hb hl x0 x1 x2 x5 hown hcls hY0 hnames (hG _ hk) (hG _ hini) hstr (fun w hw => (hat w hw).elim (fun h => hG w h) (fun h => by
    have hn := (List.mem_filter.mp h).2
    have h1 := hE.1 w h
    cases w <;> first | exact va_Nw.use rfl h1 | cases hn)) hgood hE.2.2.2.2.2.2.2.2.1 hE.2.2.2.2.2.2.2.2.2.1 hS.2.2 hsize d0 d3 d4 d6 d9 (fun x hx => (hout x hx).elim) hRframes hRlocals hRcells hRslots hlocks
    (fun t _ h2 h3 => ⟨w, rfl, ⟨⟨x, hy, hxn.symm⟩, hS.1.kept (fun k z hz => h3 z.1 ((hS.1 k z hz).lt)), hS.2.1⟩, Nat.le_trans hS.2.2.1 h2, fun q hq hn => (h3 q (Nat.lt_of_lt_of_le hq hS.2.2.1)).trans (hS.2.2.2.1 q hq hn)⟩) hS.2.2.2.2 hc hs
theorem cx_throwNW {β : Type} {y : Sum Nat β} {Qc : Array Value → State → Outcome → State → Prop} {x : Nat} (hexec : p.tables.exec = Jvm.exec) (hb : c.code = cc) (hl : l.stackTraces = false) {cls text : String} {Y0 : String} {r : List String} {ik is ic mc ms sa ix : Nat} {rx : ByteArray} (x0 : decode rx 0 = .ok (.aload_n 0, 1)) (x1 : decode rx 1 = .ok (.aload_n 1, 1)) (x2 : decode rx 2 = .ok (.invokespecial ix, 3)) (x5 : decode rx 5 = .ok (.return_, 1)) (hown : s.vm.findClass own = some m.cls) (hcls : Bundle.fit cls = true) (hY0 : Bundle.fit Y0 = true) (hnames : ∀ n ∈ r, Bundle.fit n = true) (X : CC p s m args c cc nL c0 own D kA V (va_A (CW kA Z u) s.heap.size)) (hS : CS D kA Z (va_A (CW kA Z u) s.heap.size) s w H locs) (hy : y = .inl x) (hxn : exN x = cls) (hk : Cond.classLink own ik cls ∈ GW) (hini : Cond.initialized cls ∈ GW) (hstr : vk_R own is text sa s) (hat : ∀ w ∈ hn_at own ic cls ix rx Y0 r, w ∈ GW ∨ w ∈ NWL) (hgood : ∀ w ∈ Cond.classLink own ik cls :: Cond.initialized cls :: hn_at own ic cls ix rx Y0 r, vx_ot w = true) (hsize : ls.size = c.maxLocals) (d0 : decode cc pc = .ok (.new ik, 3)) (d3 : decode cc (pc + 3) = .ok (.dup, 1)) (d4 : decode cc (pc + 4) = .ok (.ldc_w is, 3)) (d6 : decode cc (pc + 7) = .ok (.invokespecial ic, 3)) (d9 : decode cc (pc + 10) = .ok (.athrow, 1)) (hout : ∀ x ∈ c.exceptionTable.toList, False) (hRframes : (Y0 :: r).length + 3 < R.frames) (hRlocals : (rest.map fun v => v.category).sum + (13 * ((Y0 :: r).length + 1) + 43) ≤ R.locals) (hRcells : 0 + 1 ≤ R.cells) (hRslots : 0 + 6 ≤ R.slots) (hlocks : meth.locks = false) (hc : 0 + 1 ≤ mc) (hs : 0 + 6 ≤ ms) : W p l e R s m args below meth c H locs 0 0 (vx_MQ below Qc (cXc D kA Z u s.heap.size y w) args s mc ms (va_A (CW kA Z u) s.heap.size)) (F0 m pc ls rest) := by
  obtain ⟨⟨hx, hb1, hml, hown1, hts⟩, hK, hE, hA⟩ := X
  have hG : ∀ w ∈ GW, w.before args s = true := fun w h => hts w (List.mem_cons_of_mem _ h)
  exact hn_throwSW hexec hb hl x0 x1 x2 x5 hown hcls hY0 hnames (hG _ hk) (hG _ hini) hstr (fun w hw => (hat w hw).elim (fun h => hG w h) (fun h => by
    have hn := (List.mem_filter.mp h).2
    have h1 := hE.1 w h
    cases w <;> first | exact va_Nw.use rfl h1 | cases hn)) hgood hE.2.2.2.2.2.2.2.2.1 hE.2.2.2.2.2.2.2.2.2.1 hS.2.2 hsize d0 d3 d4 d6 d9 (fun x hx => (hout x hx).elim) hRframes hRlocals hRcells hRslots hlocks
    (fun t _ h2 h3 => ⟨w, rfl, ⟨⟨x, hy, hxn.symm⟩, hS.1.kept (fun k z hz => h3 z.1 ((hS.1 k z hz).lt)), hS.2.1⟩, Nat.le_trans hS.2.2.1 h2, fun q hq hn => (h3 q (Nat.lt_of_lt_of_le hq hS.2.2.1)).trans (hS.2.2.2.1 q hq hn)⟩) hS.2.2.2.2 hc hs
end CThrow
