abbrev cX11_load : ByteArray := prog_1_method_4_code
def yX11_load : MethodName := ⟨RX11, "load", "(Z)I"⟩
theorem dX11_load_0 : decode cX11_load 0 = .ok (.aload_n 0, 1) := by decide +kernel
theorem dX11_load_1 : decode cX11_load 1 = .ok (.getfield 18, 3) := by decide +kernel
theorem dX11_load_4 : decode cX11_load 4 = .ok (.aload_n 0, 1) := by decide +kernel
theorem dX11_load_5 : decode cX11_load 5 = .ok (.getfield 77, 3) := by decide +kernel
theorem dX11_load_8 : decode cX11_load 8 = .ok (.invokevirtual 84, 3) := by decide +kernel
theorem dX11_load_11 : decode cX11_load 11 = .ok (.aload_n 0, 1) := by decide +kernel
theorem dX11_load_12 : decode cX11_load 12 = .ok (.iconst 0, 1) := by decide +kernel
theorem dX11_load_13 : decode cX11_load 13 = .ok (.putfield 77, 3) := by decide +kernel
theorem dX11_load_16 : decode cX11_load 16 = .ok (.iconst 1, 1) := by decide +kernel
theorem dX11_load_17 : decode cX11_load 17 = .ok (.istore_n 2, 1) := by decide +kernel
theorem dX11_load_18 : decode cX11_load 18 = .ok (.aload_n 0, 1) := by decide +kernel
theorem dX11_load_19 : decode cX11_load 19 = .ok (.getfield 27, 3) := by decide +kernel
theorem dX11_load_22 : decode cX11_load 22 = .ok (.invokevirtual 87, 3) := by decide +kernel
theorem dX11_load_25 : decode cX11_load 25 = .ok (.aload_n 0, 1) := by decide +kernel
theorem dX11_load_26 : decode cX11_load 26 = .ok (.getfield 60, 3) := by decide +kernel
theorem dX11_load_29 : decode cX11_load 29 = .ok (.aload_n 0, 1) := by decide +kernel
theorem dX11_load_30 : decode cX11_load 30 = .ok (.getfield 52, 3) := by decide +kernel
theorem dX11_load_33 : decode cX11_load 33 = .ok (.invokevirtual 90, 3) := by decide +kernel
theorem dX11_load_36 : decode cX11_load 36 = .ok (.goto 6, 3) := by decide +kernel
theorem dX11_load_39 : decode cX11_load 39 = .ok (.astore_n 3, 1) := by decide +kernel
theorem dX11_load_40 : decode cX11_load 40 = .ok (.iconst 0, 1) := by decide +kernel
theorem dX11_load_41 : decode cX11_load 41 = .ok (.istore_n 2, 1) := by decide +kernel
theorem dX11_load_42 : decode cX11_load 42 = .ok (.iload_n 2, 1) := by decide +kernel
theorem dX11_load_43 : decode cX11_load 43 = .ok (.ifCond .eq 8, 3) := by decide +kernel
theorem dX11_load_46 : decode cX11_load 46 = .ok (.aload_n 0, 1) := by decide +kernel
theorem dX11_load_47 : decode cX11_load 47 = .ok (.iload_n 1, 1) := by decide +kernel
theorem dX11_load_48 : decode cX11_load 48 = .ok (.invokevirtual 96, 3) := by decide +kernel
theorem dX11_load_51 : decode cX11_load 51 = .ok (.aload_n 0, 1) := by decide +kernel
theorem dX11_load_52 : decode cX11_load 52 = .ok (.getfield 18, 3) := by decide +kernel
theorem dX11_load_55 : decode cX11_load 55 = .ok (.getfield 100, 3) := by decide +kernel
theorem dX11_load_58 : decode cX11_load 58 = .ok (.ireturn, 1) := by decide +kernel
theorem gw_568 : (Jvm.Cond.fieldLink "SoftController" (27 : Nat) "SoftController" "grammar" "LSoftController$Grammar;") ∈ GW := gw_t (tin_3 _ (List.mem_of_getElem? (i := 88) rfl)) rfl
theorem gw_569 : (Jvm.Cond.fieldLink "SoftController" (60 : Nat) "SoftController" "maker" "LSoftController$Maker;") ∈ GW := gw_t (tin_3 _ (List.mem_of_getElem? (i := 89) rfl)) rfl
theorem nw_106 : (Jvm.Cond.fieldLinkNest "SoftController" (100 : Nat) "SoftController$Tokens" "fault" "I" "SoftController") ∈ NWL := gw_n (tin_1 _ (List.mem_of_getElem? (i := 106) rfl)) rfl
theorem nw_799 : (Jvm.Cond.castable "java/lang/IllegalStateException" "java/lang/IllegalStateException") ∈ NWL := gw_n (tin_4 _ (List.mem_of_getElem? (i := 79) rfl)) rfl
section C41loadR
variable {p : Program} {l : Launch} {e : Env} {R : Room} {s : State} {m : MethodId} {args : Array Value} {below : List Frame} {meth : Method} {c : Code} {H : Heap} {locs : List Loc} {Q : State → Prop} {cells slots : Nat}
variable {cc : ByteArray} {pc nL : Nat} {c0 : Cond} {own : String} {ls : Array Slot} {rest : List Value} {D : va_G} {kA : Nat → ClassId} {V Z : Nat → Nat} {A : Nat → Prop}
variable {u u1 : CSt}
theorem cg_X11_27 (X : CC p s m args c cc nL c0 RX11 D kA V A) (hS : CS D kA Z A s u H locs) (hd : decode cc pc = .ok (.getfield 27, 3)) (kk : W p l e R s m args below meth c H locs cells slots Q (F0 m (pc + 3) ls (.ref (Z 208) :: rest))) : W p l e R s m args below meth c H locs cells slots Q (F0 m pc ls (.ref (Z 200) :: rest)) := by
  obtain ⟨⟨hx, hb, hml, hown, hts⟩, hK, hE, hA⟩ := X
  have hG : ∀ w ∈ GW, w.before args s = true := fun w h => hts w (List.mem_cons_of_mem _ h)
  exact va_get (D := D) (ci := 10) (v := .ref (Z 208)) (C := RX11) (T := TX11) (N := 12) hx hb hG gwl_X11 hown hK hS.1 0 (cw_lit rfl) rfl 3 (by decide) (hG _ gw_568) (fun _ h9 => h9) rfl hd kk
theorem cg_X11_60 (X : CC p s m args c cc nL c0 RX11 D kA V A) (hS : CS D kA Z A s u H locs) (hd : decode cc pc = .ok (.getfield 60, 3)) (kk : W p l e R s m args below meth c H locs cells slots Q (F0 m (pc + 3) ls (.ref (Z 227) :: rest))) : W p l e R s m args below meth c H locs cells slots Q (F0 m pc ls (.ref (Z 200) :: rest)) := by
  obtain ⟨⟨hx, hb, hml, hown, hts⟩, hK, hE, hA⟩ := X
  have hG : ∀ w ∈ GW, w.before args s = true := fun w h => hts w (List.mem_cons_of_mem _ h)
  exact va_get (D := D) (ci := 10) (v := .ref (Z 227)) (C := RX11) (T := TX11) (N := 12) hx hb hG gwl_X11 hown hK hS.1 0 (cw_lit rfl) rfl 4 (by decide) (hG _ gw_569) (fun _ h9 => h9) rfl hd kk
theorem cg_X11_100 (X : CC p s m args c cc nL c0 RX11 D kA V A) (hS : CS D kA Z A s u H locs) (hd : decode cc pc = .ok (.getfield 100, 3)) (kk : W p l e R s m args below meth c H locs cells slots Q (F0 m (pc + 3) ls (.int (cI u 6) :: rest))) : W p l e R s m args below meth c H locs cells slots Q (F0 m pc ls (.ref (Z 202) :: rest)) := by
  obtain ⟨⟨hx, hb, hml, hown, hts⟩, hK, hE, hA⟩ := X
  have hG : ∀ w ∈ GW, w.before args s = true := fun w h => hts w (List.mem_cons_of_mem _ h)
  exact va_getN (D := D) (ci := 8) (v := .int (cI u 6)) (C := RX9) (T := TX9) (N := 11) hx hb hG gwl_X9 hown hK hS.1 2 (cw_lit rfl) rfl 9 (by decide) (va_Nw.use rfl (hE.1 _ nw_106)) (fun _ h9 => h9) rfl hd kk
end C41loadR
section C41load
variable {p : Program} {l : Launch} {e : Env} {R : Room} {s : State} {m : MethodId} {args : Array Value} {below : List Frame} {meth : Method} {c : Code} {H : Heap} {locs : List Loc} {Q : State → Prop} {cells slots : Nat}
variable {ls : Array Slot} {D : va_G} {kA : Nat → ClassId} {V Z : Nat → Nat} {A : Nat → Prop} {N d : Nat} {w : CSt}
/-- a call in a body that catches IllegalStateException -/
def bh {α β : Type} (x : Option (Sum Nat β × CSt)) (kc : CSt → Option α) (k : β → CSt → Option α) : Option α := match x with
  | none => none
  | some (.inl e, w) => if e = 0 then kc w else none
  | some (.inr r, w) => k r w
theorem bh_of {α β : Type} {x : Option (Sum Nat β × CSt)} {kc : CSt → Option α} {k : β → CSt → Option α} {y : α} (h : bh x kc k = some y) : ∃ y1 w1, x = some (y1, w1) ∧ ((y1 = .inl 0 ∧ kc w1 = some y) ∨ ∃ r, y1 = .inr r ∧ k r w1 = some y) := by
  match x, h with
  | some (.inl e, w1), h =>
    have h1 : (if e = 0 then kc w1 else none) = some y := h
    by_cases he : e = 0
    · subst he
      rw [if_pos rfl] at h1
      exact ⟨_, _, rfl, Or.inl ⟨rfl, h1⟩⟩
    · rw [if_neg he] at h1
      cases h1
  | some (.inr r, w1), h => exact ⟨_, _, rfl, Or.inr ⟨r, rfl, h⟩⟩
def cQload (D : va_G) (kA : Nat → ClassId) (Z : Nat → Nat) (u : CSt) (sz : Nat) (r : Int32) (w : CSt) : Array Value → State → Outcome → State → Prop := va_Qi (fun (r0 : Int32) (w0 : CSt) => r0 = r ∧ w0 = w) (fun (w0 : CSt) t => aB D (va_A (CW kA Z u) sz) (CW kA Z w0) t) (va_A (CW kA Z u) sz)

def F_X11_load (N : Nat) (l1 : Int32) (u : CSt) : Option (Int32 × CSt) := bc (F_X9_read N (cI u 0) u) fun _ u1 => pc (xI u1 0 0) fun u2 => bh (F_X0_check N u2) (fun w => some (cI w 6, w)) fun _ u3 => ok (cR u3 1 < 2) inferInstance <| bh (F_X3_make N (cR u3 1) u3) (fun w => some (cI w 6, w)) fun _ u4 => bc (F_X11_install N l1 u4) fun _ u5 => some (cI u5 6, u5)
set_option maxHeartbeats 4000000 in
theorem k_X11_load (l : Launch) (hst : l.stackTraces = false) (D : va_G) (kA : Nat → ClassId) (V Z : Nat → Nat) (N : Nat) (l1 : Int32) (u : CSt) (sz : Nat) {r : Int32} {w : CSt} (h : F_X11_load N l1 u = some (r, w)) : Met l yX11_load (Cond.codeWith yX11_load cX11_load 4 (some .int) [(18, 36, 39, 94)] :: GW) ({ frames := 493, cells := 1, slots := 6, locals := 29068 }) (cPc D kA V Z [.ref (Z 200), .int l1] u sz) (cQload D kA Z u sz r w) 1 6 (va_A (CW kA Z u) sz) := by
  refine va_MetW (cc := cX11_load) (maxL := 4) (ret := (some .int)) (by decide) rfl ?_
  intro p e s m args below meth c s₁ Bd hml hv
  obtain ⟨rfl, hsz, hP, hK, hD0, hE⟩ := hv
  have hx := Bd.exec
  have hb := Bd.bytes
  have hr := Bd.returns
  have hts := atoms_spec (ws := Cond.codeWith yX11_load cX11_load 4 (some .int) [(18, 36, 39, 94)] :: GW) Bd.pre
  have hG : ∀ w ∈ GW, w.before ([.ref (Z 200), .int l1] : List Value).toArray s = true := fun w h => hts w (List.mem_cons_of_mem _ h)
  have hown : s.vm.findClass RX11 = some m.cls := findClass_of_methodNamed Bd.named
  have hlocks := Bd.notSynchronized
  have hxt := vx_table (x := yX11_load) Bd (hts _ List.mem_cons_self)
  subst hsz
  have X : CC p s m ([.ref (Z 200), .int l1] : List Value).toArray c cX11_load 4 (Cond.codeWith yX11_load cX11_load 4 (some .int) [(18, 36, 39, 94)]) RX11 D kA V (va_A (CW kA Z u) s.heap.size) := ⟨⟨hx, hb, hml, hown, hts⟩, hK, hE, fun q h => Or.inr h⟩
  have hF : 493 ≤ (headSpec (Cond.codeWith yX11_load cX11_load 4 (some .int) [(18, 36, 39, 94)] :: GW) ({ frames := 493, cells := 1, slots := 6, locals := 29068 })).room.frames := Nat.le_refl _
  have hL : 29068 ≤ (headSpec (Cond.codeWith yX11_load cX11_load 4 (some .int) [(18, 36, 39, 94)] :: GW) ({ frames := 493, cells := 1, slots := 6, locals := 29068 })).room.locals := Nat.le_refl _
  have hC : 1 ≤ (headSpec (Cond.codeWith yX11_load cX11_load 4 (some .int) [(18, 36, 39, 94)] :: GW) ({ frames := 493, cells := 1, slots := 6, locals := 29068 })).room.cells ∧ 6 ≤ (headSpec (Cond.codeWith yX11_load cX11_load 4 (some .int) [(18, 36, 39, 94)] :: GW) ({ frames := 493, cells := 1, slots := 6, locals := 29068 })).room.slots := ⟨Nat.le_refl _, Nat.le_refl _⟩
  have hS : CS D kA Z (va_A (CW kA Z u) s.heap.size) s u s.heap [] := ⟨hP, hD0.self, va_S.rf⟩
  have hl := lv_entry ([.ref (Z 200), .int l1]) (n := 4) (Nat.le_of_ble_eq_true rfl)
  rw [lg_entry_eq]
  generalize (lg_sl ([.ref (Z 200), .int l1]) ++ List.replicate (4 - (lg_sl ([.ref (Z 200), .int l1])).length) Slot.unset).toArray = ls at hl ⊢
  have hl : lv_has ls 4 [(0, .ref (Z 200)), (1, .int l1)] := hl
  have tail : ∀ (H : Heap) (locs : List Loc) (ls : Array Slot) (q : Nat) (w1 : CSt), CS D kA Z (va_A (CW kA Z u) s.heap.size) s w1 H locs → cI w1 6 = r → w1 = w → lv_has ls 4 [(2, .int 1), (0, .ref (Z 200)), (1, .int l1)] → W p l e (headSpec (Cond.codeWith yX11_load cX11_load 4 (some .int) [(18, 36, 39, 94)] :: GW) ({ frames := 493, cells := 1, slots := 6, locals := 29068 })).room s m ([.ref (Z 200), .int l1] : List Value).toArray below meth c H locs 1 6 (MQ below (cQload D kA Z u s.heap.size r w) ([.ref (Z 200), .int l1] : List Value).toArray s 1 6 (va_A (CW kA Z u) s.heap.size)) (F0 m 39 ls [.ref q]) := by
    intro H locs ls q w1 hS e1 e2 hl
    subst e2
    refine lv_astore_n (lv' := [(3, .ref q), (2, .int 1), (0, .ref (Z 200)), (1, .int l1)]) hx hb dX11_load_39 rfl hl (by decide) rfl (fun ls hl => ?_)
    refine lv_iconst (v := 0) hx hb dX11_load_40 (by decide) ?_
    refine lv_istore_n (lv' := [(2, .int 0), (3, .ref q), (0, .ref (Z 200)), (1, .int l1)]) hx hb dX11_load_41 rfl hl (by decide) rfl (fun ls hl => ?_)
    refine lv_iload_n hx hb dX11_load_42 rfl (lv_at hl 0 rfl) ?_
    refine lv_if_eq (tgt := 51) hx hb dX11_load_43 (by decide) (fun c_1 => ?_) (fun c_1 => absurd rfl c_1)
    refine lv_aload_n hx hb dX11_load_51 rfl (lv_at hl 2 rfl) ?_
    refine cg_X11_18 X hS dX11_load_52 ?_
    refine cg_X11_100 X hS dX11_load_55 ?_
    rw [e1]
    exact W.iret (v := r) hx hb hr (fun t ht hW => ⟨⟨r, w1, rfl, ⟨rfl, rfl⟩, by rw [ht]; exact hS.1, hS.2.1⟩, hS.2.2.F ht⟩) hS.2.2.2.2 dX11_load_58
  unfold F_X11_load at h
  refine W.widen (k := 0) (n := 0) (Nat.zero_le _) (Nat.zero_le _) ?_
  refine lv_aload_n hx hb dX11_load_0 rfl (lv_at hl 0 rfl) ?_
  refine cg_X11_18 X hS dX11_load_1 ?_
  refine lv_aload_n hx hb dX11_load_4 rfl (lv_at hl 0 rfl) ?_
  refine cg_X11_77 X hS dX11_load_5 ?_
  obtain ⟨r1, u1, h1, h⟩ := bc_of h
  refine kc_X9_read_RX11 X hS h1 (Nat.le_trans (Nat.le_of_ble_eq_true rfl) hF) (Nat.le_trans (Nat.le_of_ble_eq_true rfl) hL) hl.1 (Nat.le_of_ble_eq_true rfl) dX11_load_8 (fun H locs hS => ?_)
  refine lv_aload_n hx hb dX11_load_11 rfl (lv_at hl 0 rfl) ?_
  refine lv_iconst (v := 0) hx hb dX11_load_12 (by decide) ?_
  obtain ⟨u2, e2, h⟩ := pc_of h
  refine cp_X11_77 X hS e2 dX11_load_13 (fun H locs hS => ?_)
  refine lv_iconst (v := 1) hx hb dX11_load_16 (by decide) ?_
  refine lv_istore_n (lv' := [(2, .int 1), (0, .ref (Z 200)), (1, .int l1)]) hx hb dX11_load_17 rfl hl (by decide) rfl (fun ls hl => ?_)
  refine lv_aload_n hx hb dX11_load_18 rfl (lv_at hl 1 rfl) ?_
  refine cg_X11_27 X hS dX11_load_19 ?_
  obtain ⟨y3, u3, h3, h⟩ := bh_of h
  refine kc_X0_check_RX11 hst X hS h3 (Nat.le_trans (Nat.le_of_ble_eq_true rfl) hF) (Nat.le_trans (Nat.le_of_ble_eq_true rfl) hL) hC hl.1 (Nat.le_of_ble_eq_true rfl) dX11_load_22 (fun r3 hr3 H locs hS => ?_) (fun x9 hn H locs q9 ce hS a1 a2 a3 => ?_)
  rotate_left
  · rcases h with ⟨e9, h⟩ | ⟨r9, e9, h⟩
    · cases e9.symm.trans hn
      obtain ⟨e7, e8⟩ := so9 h
      refine vx_catch (name := "java/lang/IllegalStateException") hown [] ⟨18, 36, 39, 94⟩ [] (hxt.trans rfl) (fun _ h => nomatch h) (by decide) (by decide) (hG _ gw_618) (va_Nw.use rfl (hE.1 _ nw_799)) a1 a2 a3 ?_
      exact tail H locs ls q9 u3 hS e7 e8 hl
    · cases e9.symm.trans hn
  rcases h with ⟨e9, h⟩ | ⟨r9, e9, h⟩
  · cases e9.symm.trans hr3
  refine lv_aload_n hx hb dX11_load_25 rfl (lv_at hl 1 rfl) ?_
  refine cg_X11_60 X hS dX11_load_26 ?_
  refine lv_aload_n hx hb dX11_load_29 rfl (lv_at hl 1 rfl) ?_
  refine cg_X11_52 X hS dX11_load_30 ?_
  obtain ⟨hq, h⟩ := ok_of h
  obtain ⟨y4, u4, h4, h⟩ := bh_of h
  refine kc_X3_make_RX11 hst X hq hS h4 (Nat.le_trans (Nat.le_of_ble_eq_true rfl) hF) (Nat.le_trans (Nat.le_of_ble_eq_true rfl) hL) hC hl.1 (Nat.le_of_ble_eq_true rfl) dX11_load_33 (fun r4 hr4 H locs hS => ?_) (fun x9 hn H locs q9 ce hS a1 a2 a3 => ?_)
  rotate_left
  · rcases h with ⟨e9, h⟩ | ⟨r9, e9, h⟩
    · cases e9.symm.trans hn
      obtain ⟨e7, e8⟩ := so9 h
      refine vx_catch (name := "java/lang/IllegalStateException") hown [] ⟨18, 36, 39, 94⟩ [] (hxt.trans rfl) (fun _ h => nomatch h) (by decide) (by decide) (hG _ gw_618) (va_Nw.use rfl (hE.1 _ nw_799)) a1 a2 a3 ?_
      exact tail H locs ls q9 u4 hS e7 e8 hl
    · cases e9.symm.trans hn
  rcases h with ⟨e9, h⟩ | ⟨r9, e9, h⟩
  · cases e9.symm.trans hr4
  refine lv_goto (tgt := 42) hx hb dX11_load_36 (by decide) ?_
  refine lv_iload_n hx hb dX11_load_42 rfl (lv_at hl 0 rfl) ?_
  refine lv_if_eq (tgt := 51) hx hb dX11_load_43 (by decide) (fun c_1 => absurd c_1 (by decide)) (fun c_1 => ?_)
  refine lv_aload_n hx hb dX11_load_46 rfl (lv_at hl 1 rfl) ?_
  refine lv_iload_n hx hb dX11_load_47 rfl (lv_at hl 2 rfl) ?_
  obtain ⟨r5, u5, h5, h⟩ := bc_of h
  refine kc_X11_install_RX11 X hS h5 (Nat.le_trans (Nat.le_of_ble_eq_true rfl) hF) (Nat.le_trans (Nat.le_of_ble_eq_true rfl) hL) hl.1 (Nat.le_of_ble_eq_true rfl) dX11_load_48 (fun H locs hS => ?_)
  refine lv_aload_n hx hb dX11_load_51 rfl (lv_at hl 1 rfl) ?_
  refine cg_X11_18 X hS dX11_load_52 ?_
  refine cg_X11_100 X hS dX11_load_55 ?_
  obtain ⟨rfl, rfl⟩ := so9 h
  refine W.widen (k := 1) (n := 6) (Nat.zero_le _) (Nat.zero_le _) ?_
  exact W.iret (v := cI u5 6) hx hb hr (fun t ht hW => ⟨⟨_, u5, rfl, ⟨rfl, rfl⟩, by rw [ht]; exact hS.1, hS.2.1⟩, hS.2.2.F ht⟩) hS.2.2.2.2 dX11_load_58
end C41load
