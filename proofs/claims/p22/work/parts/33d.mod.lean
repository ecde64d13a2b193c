abbrev cJ9_floorMod_7cf53 : ByteArray := prog_23_method_50_code
def yJ9_floorMod_7cf53 : MethodName := ⟨RJ9, "floorMod", "(II)I"⟩
theorem dJ9_floorMod_7cf53_0 : decode cJ9_floorMod_7cf53 0 = .ok (.iload_n 0, 1) := by decide +kernel
theorem dJ9_floorMod_7cf53_1 : decode cJ9_floorMod_7cf53 1 = .ok (.iload_n 1, 1) := by decide +kernel
theorem dJ9_floorMod_7cf53_2 : decode cJ9_floorMod_7cf53 2 = .ok (.irem, 1) := by decide +kernel
theorem dJ9_floorMod_7cf53_3 : decode cJ9_floorMod_7cf53 3 = .ok (.istore_n 2, 1) := by decide +kernel
theorem dJ9_floorMod_7cf53_4 : decode cJ9_floorMod_7cf53 4 = .ok (.iload_n 0, 1) := by decide +kernel
theorem dJ9_floorMod_7cf53_5 : decode cJ9_floorMod_7cf53 5 = .ok (.iload_n 1, 1) := by decide +kernel
theorem dJ9_floorMod_7cf53_6 : decode cJ9_floorMod_7cf53 6 = .ok (.ixor, 1) := by decide +kernel
theorem dJ9_floorMod_7cf53_7 : decode cJ9_floorMod_7cf53 7 = .ok (.ifCond .ge 11, 3) := by decide +kernel
theorem dJ9_floorMod_7cf53_10 : decode cJ9_floorMod_7cf53 10 = .ok (.iload_n 2, 1) := by decide +kernel
theorem dJ9_floorMod_7cf53_11 : decode cJ9_floorMod_7cf53 11 = .ok (.ifCond .eq 7, 3) := by decide +kernel
theorem dJ9_floorMod_7cf53_14 : decode cJ9_floorMod_7cf53 14 = .ok (.iload_n 2, 1) := by decide +kernel
theorem dJ9_floorMod_7cf53_15 : decode cJ9_floorMod_7cf53 15 = .ok (.iload_n 1, 1) := by decide +kernel
theorem dJ9_floorMod_7cf53_16 : decode cJ9_floorMod_7cf53 16 = .ok (.iadd, 1) := by decide +kernel
theorem dJ9_floorMod_7cf53_17 : decode cJ9_floorMod_7cf53 17 = .ok (.ireturn, 1) := by decide +kernel
theorem dJ9_floorMod_7cf53_18 : decode cJ9_floorMod_7cf53 18 = .ok (.iload_n 2, 1) := by decide +kernel
theorem dJ9_floorMod_7cf53_19 : decode cJ9_floorMod_7cf53 19 = .ok (.ireturn, 1) := by decide +kernel
section C33dmod
variable {p : Program} {l : Launch} {e : Env} {R : Room} {s : State} {m : MethodId} {args : Array Value} {below : List Frame} {meth : Method} {c : Code} {H : Heap} {locs : List Loc} {Q : State → Prop} {cells slots : Nat}
variable {ls : Array Slot} {D : va_G} {kA : Nat → ClassId} {V Z : Nat → Nat} {A : Nat → Prop} {N d : Nat} {w : CSt}
def B_J9_floorMod_7cf53_0 (N : Nat) (l0 : Int32) (l1 : Int32) : Option Int32 := nz l1 <| if (0 : Int32) ≤ (l0 ^^^ l1) then (some (l0 - l0 / l1 * l1)) else (if (l0 - l0 / l1 * l1) = (0 : Int32) then (some (l0 - l0 / l1 * l1)) else (some ((l0 - l0 / l1 * l1) + l1)))
set_option maxHeartbeats 4000000 in
theorem b_J9_floorMod_7cf53_0 {r : Int32} (X : CallFix p m c cJ9_floorMod_7cf53 3 s args (Cond.code yJ9_floorMod_7cf53 cJ9_floorMod_7cf53 3 (some .int) :: GW) RJ9) (hE : ∀ (ls : Array Slot) (pc : Nat), decode cJ9_floorMod_7cf53 pc = .ok (.ireturn, 1) → W p l e R s m args below meth c s.heap [] 0 0 Q (F0 m pc ls [.int r])) (hF : 0 ≤ R.frames) (hL : 0 ≤ R.locals) {l0 : Int32} {l1 : Int32}  (h : B_J9_floorMod_7cf53_0 N l0 l1 = some r)  (hl : lv_has ls 3 [(0, .int l0), (1, .int l1)]) : W p l e R s m args below meth c s.heap [] 0 0 Q (F0 m 0 ls []) := by
  obtain ⟨hx, hb, hml, hown, hts⟩ := id X
  have hG : ∀ w ∈ GW, w.before args s = true := fun w h => hts w (List.mem_cons_of_mem _ h)
  unfold B_J9_floorMod_7cf53_0 at h
  refine lv_iload_n hx hb dJ9_floorMod_7cf53_0 rfl (lv_at hl 0 rfl) ?_
  refine lv_iload_n hx hb dJ9_floorMod_7cf53_1 rfl (lv_at hl 1 rfl) ?_
  obtain ⟨z_1, h⟩ := nz_of h
  refine lv_irem hx hb dJ9_floorMod_7cf53_2 z_1 ?_
  refine lv_istore_n (lv' := [(2, .int (l0 - l0 / l1 * l1)), (0, .int l0), (1, .int l1)]) hx hb dJ9_floorMod_7cf53_3 rfl hl (by decide) rfl (fun ls hl => ?_)
  refine lv_iload_n hx hb dJ9_floorMod_7cf53_4 rfl (lv_at hl 1 rfl) ?_
  refine lv_iload_n hx hb dJ9_floorMod_7cf53_5 rfl (lv_at hl 2 rfl) ?_
  refine lv_ixor hx hb dJ9_floorMod_7cf53_6 ?_
  refine lv_if_ge (tgt := 18) hx hb dJ9_floorMod_7cf53_7 (by decide) (fun c_2 => ?_) (fun c_2 => ?_)
  · have h := ip (c_2) h
    refine lv_iload_n hx hb dJ9_floorMod_7cf53_18 rfl (lv_at hl 0 rfl) ?_
    obtain rfl := Option.some.inj h
    exact hE _ _ dJ9_floorMod_7cf53_19
  · have h := im (c_2) h
    refine lv_iload_n hx hb dJ9_floorMod_7cf53_10 rfl (lv_at hl 0 rfl) ?_
    refine lv_if_eq (tgt := 18) hx hb dJ9_floorMod_7cf53_11 (by decide) (fun c_3 => ?_) (fun c_3 => ?_)
    · have h := ip (c_3) h
      refine lv_iload_n hx hb dJ9_floorMod_7cf53_18 rfl (lv_at hl 0 rfl) ?_
      obtain rfl := Option.some.inj h
      exact hE _ _ dJ9_floorMod_7cf53_19
    · have h := im (c_3) h
      refine lv_iload_n hx hb dJ9_floorMod_7cf53_14 rfl (lv_at hl 0 rfl) ?_
      refine lv_iload_n hx hb dJ9_floorMod_7cf53_15 rfl (lv_at hl 2 rfl) ?_
      refine lv_iadd hx hb dJ9_floorMod_7cf53_16 ?_
      obtain rfl := Option.some.inj h
      exact hE _ _ dJ9_floorMod_7cf53_17
def F_J9_floorMod_7cf53 (N : Nat) (l0 : Int32) (l1 : Int32) : Option Int32 := B_J9_floorMod_7cf53_0 N l0 l1
set_option maxHeartbeats 4000000 in
theorem k_J9_floorMod_7cf53 (l : Launch) (N : Nat) (l0 : Int32) (l1 : Int32) {r : Int32} (h : F_J9_floorMod_7cf53 N l0 l1 = some r) : Met l yJ9_floorMod_7cf53 (Cond.code yJ9_floorMod_7cf53 cJ9_floorMod_7cf53 3 (some .int) :: GW) { frames := 0, cells := 0, slots := 0, locals := 0 } (va_Pc [.int l0, .int l1] (fun _ => True)) (vp_Si (fun rz => rz = r)) 0 0 (fun _ => False) := by
  refine Met.ofWF (cc := cJ9_floorMod_7cf53) (maxL := 3) (ret := (some .int)) (by decide +kernel) rfl ?_
  intro p e s m args below meth c s₁ Bd hml hv
  obtain ⟨rfl, -⟩ := hv
  have hts := atoms_spec (ws := Cond.code yJ9_floorMod_7cf53 cJ9_floorMod_7cf53 3 (some .int) :: GW) Bd.pre
  have hl := lv_entry ([.int l0, .int l1]) (n := 3) (Nat.le_of_ble_eq_true rfl)
  rw [lg_entry_eq]
  generalize (lg_sl ([.int l0, .int l1]) ++ List.replicate (3 - (lg_sl ([.int l0, .int l1])).length) Slot.unset).toArray = ls at hl ⊢
  have hl : lv_has ls 3 [(0, .int l0), (1, .int l1)] := hl
  have hr := Bd.returns
  have hlocks := Bd.notSynchronized
  have X : CallFix p m c cJ9_floorMod_7cf53 3 s ([.int l0, .int l1]).toArray (Cond.code yJ9_floorMod_7cf53 cJ9_floorMod_7cf53 3 (some .int) :: GW) RJ9 := ⟨Bd.exec, Bd.bytes, hml, findClass_of_methodNamed Bd.named, hts⟩
  have hE0 := fun (ls : Array Slot) (pc : Nat) (hd : decode cJ9_floorMod_7cf53 pc = .ok (.ireturn, 1)) => W.iret (v := r) X.1 X.2.1 hr (Qc := vp_Si (fun rz => rz = r)) (H := s.heap) (locs := []) (cells := 0) (slots := 0) (free := fun _ => False) (R := (headSpec (Cond.code yJ9_floorMod_7cf53 cJ9_floorMod_7cf53 3 (some .int) :: GW) ({ frames := 0, cells := 0, slots := 0, locals := 0 })).room) (p := p) (l := l) (e := e) (s := s) (m := m) (args := ([.int l0, .int l1]).toArray) (below := below) (meth := meth) (c := c) (ls := ls) (fun t ht hW => ⟨_, rfl, rfl, ht⟩) (fun _ h => nomatch h) hd hlocks
  exact b_J9_floorMod_7cf53_0 X hE0 (Nat.le_refl _) (Nat.le_refl _) h (lv_sub hl [0, 1] rfl)
end C33dmod
