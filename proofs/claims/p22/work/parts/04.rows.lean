/-! Rows of our own over the kit's: arrays whose class is known already, rows of rows, new cells side by side. -/
theorem ax_news {A : Nat → Prop} {D : va_G} {cl : List vw_C} {ws w2 : va_W} {H : Heap} (hD : va_D A ws) (hP : va_P D cl ws H) (hn : ∀ (k : Nat) (x : Nat × va_E), w2[k]? = some x → x.1 = H.size + k) (hA : ∀ q, H.size ≤ q → A q) : va_D A (ws ++ w2) :=
  hD.app ⟨fun i j p q hi hj hpq => by have h1 := hn i p hi; have h2 := hn j q hj; omega, fun k q hk => hA _ (by have h1 := hn k q hk; omega)⟩ (fun i j p q hi hj e => by have h1 := (hP i p hi).lt; have h2 := hn j q hj; omega)
section AxRows
variable {p : Program} {l : Launch} {e : Env} {R : Room} {s : State} {m : MethodId} {args : Array Value} {below : List Frame} {meth : Method} {c : Code} {H : Heap} {locs : List Loc} {cells slots : Nat} {Q : State → Prop}
variable {cc : ByteArray} {pc : Nat} {ls : Array Slot} {rest : List Value} {D : va_G} {cl : List vw_C} {A : Nat → Prop} {a : Nat} {tys : List (ClassId × FieldType)} {ws : va_W} {H0 : Heap}
/-- new int[n] and the like, the array's class known -/
theorem ax_newa (hexec : p.tables.exec = Jvm.exec) (hb : c.code = cc) {atype : ArrayType} {ty : FieldType} (harr : (Cond.arrayClass ty).before args s = true) (hty : newarray.typeOf atype = ty) (hK : va_K D cl tys s) (hP : va_P D cl ws H) (hD : va_D A ws) (hS : va_S A H0 H locs) (hA : ∀ q, H0.size ≤ q → A q) (t0 : Nat) {cA : ClassId} (ht : tys[t0]? = some (cA, ty))
    {n : Int32} {N' : Nat} {a0 : vp_A} (ha : ∀ cA : ClassId, vp_cell cA a0 = arrV cA N' (fun _ => defaultValue ty)) (hn : ¬ n < 0) (hN : n.toNatClampNeg = N') (hbytes : N' * componentBytes ty ≤ 536870912) (hcells : cells + 1 ≤ R.cells) (hslots : slots + N' ≤ R.slots) (hdg : decode cc pc = .ok (.newarray atype, 2))
    (kk : ∀ (q : Nat) (H1 : Heap), va_P D cl (ws ++ [(q, .inl (cA, a0))]) H1 → va_D A (ws ++ [(q, .inl (cA, a0))]) → va_S A H0 H1 locs → W p l e R s m args below meth c H1 locs (cells + 1) (slots + N') Q (F0 m (pc + 2) ls (.ref q :: rest))) : W p l e R s m args below meth c H locs cells slots Q (F0 m pc ls (.int n :: rest)) := by
  subst hty
  refine va_newa hexec hb harr rfl hK hP hD hS hA ha hn hN hbytes hcells hslots hdg (fun q cB H1 hK1 hP1 hD1 hS1 => ?_)
  have e1 := (hK.2 t0 _ ht).2
  have e2 := (hK1.2 tys.length (cB, newarray.typeOf atype) (by simp)).2
  obtain rfl : cB = cA := by
    cases atype <;> exact Option.some.inj ((show s.vm.findClass _ = some cB from e2).symm.trans (show s.vm.findClass _ = some cA from e1))
  exact kk q H1 hP1 hD1 hS1
/-- new C[n], the array's class known -/
theorem ax_newq (hexec : p.tables.exec = Jvm.exec) (hb : c.code = cc) {own C : String} {index : Nat} (hown : s.vm.findClass own = some m.cls) (hclink : (Cond.classLink own index C).before args s = true) (hover : va_AO C s) (hK : va_K D cl tys s) (hP : va_P D cl ws H) (hD : va_D A ws) (hS : va_S A H0 H locs) (hA : ∀ q, H0.size ≤ q → A q) (t0 : Nat) {cA : ClassId} (ht : tys[t0]? = some (cA, .object C))
    {n : Int32} {N' : Nat} (hn : ¬ n < 0) (hN : n.toNatClampNeg = N') (hbytes : N' * 4 ≤ 536870912) (hcells : cells + 1 ≤ R.cells) (hslots : slots + N' ≤ R.slots) (hdg : decode cc pc = .ok (.anewarray index, 3))
    (kk : ∀ (q : Nat) (H1 : Heap), va_P D cl (ws ++ [(q, .inl (cA, N', .inr (.inr (.inr (.inr (fun _ => none))))))]) H1 → va_D A (ws ++ [(q, .inl (cA, N', .inr (.inr (.inr (.inr (fun _ => none))))))]) → va_S A H0 H1 locs → W p l e R s m args below meth c H1 locs (cells + 1) (slots + N') Q (F0 m (pc + 3) ls (.ref q :: rest))) : W p l e R s m args below meth c H locs cells slots Q (F0 m pc ls (.int n :: rest)) := by
  refine va_newq hexec hb hown hclink hover hK hP hD hS hA hn hN hbytes hcells hslots hdg (fun q cB H1 hK1 hP1 hD1 hS1 => ?_)
  obtain ⟨_, _, _, _, _, e1⟩ := (hK.2 t0 _ ht).2
  obtain ⟨_, _, _, _, _, e2⟩ := (hK1.2 tys.length (cB, .object C) (by simp)).2
  obtain rfl : cB = cA := Option.some.inj (e2.symm.trans e1)
  exact kk q H1 hP1 hD1 hS1
/-- a row of rows -/
theorem ax_aald (hexec : p.tables.exec = Jvm.exec) (hb : c.code = cc) (hK : va_K D cl tys s) (hP : va_P D cl ws H) (q0 t0 : Nat) {cA : ClassId} {ty : FieldType} {n : Nat} {f : Nat → Option Nat} (ha : ws[q0]? = some (a, .inl (cA, n, .inr (.inr (.inr (.inr f)))))) (ht : tys[t0]? = some (cA, .array ty)) {i : Int32} (hin : vp_in i n) {v : Value} (hv : va_rf (f i.toNatClampNeg) = v) (hdg : decode cc pc = .ok (.aaload, 1))
    (kk : W p l e R s m args below meth c H locs cells slots Q (F0 m (pc + 1) ls (v :: rest))) : W p l e R s m args below meth c H locs cells slots Q (F0 m pc ls (.int i :: .ref a :: rest)) := by
  subst hv
  have hlt : i.toNatClampNeg < n := Nat.not_le.mp fun q => hin (Or.inr q)
  exact W.aald (v := va_rf (f i.toNatClampNeg)) (ty := .array ty) hexec hb (hP q0 _ ha) ((hK.2 t0 _ ht).1 n (fun j => va_rf (f j))) rfl (fun q => by cases q) (by show ¬ (i < 0 ∨ (arrV _ _ _).slots.size ≤ _); rw [arrV_size]; exact hin) (by show (arrV _ _ _).slots[_]? = _; rw [arrV_read _ _ hlt]) rfl rfl hdg kk
theorem ax_mna (hexec : p.tables.exec = Jvm.exec) (hb : c.code = cc) {own : String} {index : Nat} {ty : FieldType} {cA cy : ClassId} (hown : s.vm.findClass own = some m.cls) (hclink : (Cond.classLink own index ("[" ++ (FieldType.array ty).toString)).before args s = true) (hover : va_AOA ty s) (harr : (Cond.arrayClass ty).before args s = true)
    (hK : va_K D cl tys s) (hP : va_P D cl ws H) (hD : va_D A ws) (hS : va_S A H0 H locs) (hA : ∀ q, H0.size ≤ q → A q) (hcA : s.vm.findClass ("[" ++ (FieldType.array ty).toString) = some cA) (hcy : s.vm.findClass (FieldType.array ty).toString = some cy) {n k : Int32} {N' K' : Nat} {z : vp_A} (hn : ¬ n < 0) (hk : ¬ k < 0) (hN : n.toNatClampNeg = N') (hM : k.toNatClampNeg = K')
    (hb1 : N' * 4 ≤ 536870912) (hb2 : K' * componentBytes ty ≤ 536870912) (hb3 : K' ≤ 536870912) (hdf : fits ty (defaultValue ty) = true) (hdd : (defaultValue ty).isDefault = true) (hcells : cells + (1 + N') ≤ R.cells) (hslots : slots + (N' + N' * K') ≤ R.slots) (hz : ∀ c : ClassId, vp_cell c z = arrV c K' (fun _ => defaultValue ty)) (hdg : decode cc pc = .ok (.multianewarray index 2, 4))
    (kk : ∀ (q : Nat) (H1 : Heap) (locs1 : List Loc), va_P D cl (ws ++ ((q, .inl (cA, N', .inr (.inr (.inr (.inr (fun i => if i < N' then some (q + 1 + i) else none)))))) :: (List.range N').map (fun i => (q + 1 + i, .inl (cy, z))))) H1 → va_D A (ws ++ ((q, .inl (cA, N', .inr (.inr (.inr (.inr (fun i => if i < N' then some (q + 1 + i) else none)))))) :: (List.range N').map (fun i => (q + 1 + i, .inl (cy, z))))) → va_S A H0 H1 locs1 →
      W p l e R s m args below meth c H1 locs1 (cells + 1 + N') (slots + N' + N' * K') Q (F0 m (pc + 4) ls (.ref q :: rest))) : W p l e R s m args below meth c H locs cells slots Q (F0 m pc ls (.int k :: .int n :: rest)) := by
  intro T hT X
  obtain ⟨vm1, cB, comp, kA, g1, g2, -, -, X1, st⟩ := mg_run X hexec hown hclink hover harr (g := F0 m pc ls (.int k :: .int n :: rest)) rfl (by rw [hb]; exact hdg) rfl hn hk hN hM hb1 hb2 hb3 hdf hdd hcells hslots
  obtain rfl : cB = cA := Option.some.inj (g1.symm.trans hcA)
  obtain rfl : comp = cy := Option.some.inj (g2.symm.trans hcy)
  have hTh : (T.setVm vm1).heap = H := hT
  obtain ⟨f1, f2, -, -⟩ := mg_f (T.setVm vm1) cB comp N' K' (defaultValue ty) N'
  have f3 := fun x (hx : x < (T.setVm vm1).heap.size) => mg_old (T.setVm vm1) cB comp N' K' (defaultValue ty) hx N'
  have f4 := fun j (hj : j < N') => mg_row (T.setVm vm1) cB comp N' K' (defaultValue ty) N' j hj
  generalize mg_s (T.setVm vm1) cB comp N' K' (defaultValue ty) N' = F at X1 st f1 f2 f3 f4
  rw [hTh] at f1 f2 f3 f4
  have hr : ∀ (i : Nat) (x : Nat × va_E), (((H.size, .inl (cB, N', .inr (.inr (.inr (.inr (fun i => if i < N' then some (H.size + 1 + i) else none)))))) :: (List.range N').map (fun i => (H.size + 1 + i, .inl (comp, z)))) : va_W)[i]? = some x → x.1 = H.size + i ∧ va_at D cl x F.heap := by
    intro i x hx
    cases i with
    | zero => cases hx; exact ⟨rfl, f2⟩
    | succ i =>
      rw [List.getElem?_cons_succ, List.getElem?_map] at hx
      by_cases hi : i < N'
      · rw [List.getElem?_range hi] at hx
        cases hx
        refine ⟨by show H.size + 1 + i = H.size + (i + 1); omega, ?_⟩
        show F.heap[H.size + 1 + i]? = some (vp_cell comp z)
        rw [hz]
        exact f4 i hi
      · rw [List.getElem?_eq_none (by rw [List.length_range]; omega)] at hx
        cases hx
  obtain ⟨t, a1, b1⟩ := kk H.size F.heap _ ((hP.kept (fun k9 x hx => f3 x.1 ((hP k9 x hx).lt))).app (fun i x hx => (hr i x hx).2)) (ax_news hD hP (fun i x hx => (hr i x hx).1) (fun q h => hA q (Nat.le_trans hS.1 h))) ⟨by rw [f1]; have := hS.1; omega, fun x h1 h2 => (f3 x (Nat.lt_of_lt_of_le h1 hS.1)).trans (hS.2.1 x h1 h2), fun z9 hz9 => by
    rcases List.mem_append.mp hz9 with h | h
    · exact hS.2.2 z9 h
    · obtain ⟨j, -, rfl⟩ := List.mem_map.mp h
      exact hA _ (by show H0.size ≤ T.heap.size; rw [hT]; exact hS.1)⟩ F rfl X1
  refine ⟨t, st t ?_, b1⟩
  rw [show T.heap.size = H.size by rw [hT]]
  exact a1
end AxRows
