/-! the loop of the law -/
theorem gw_1879 : (Jvm.Cond.classLink "SoftControllerLaw" (88 : Nat) "SoftControllerModel") ∈ GW := gw_t (tin_8 _ (List.mem_of_getElem? (i := 199) rfl)) rfl
theorem gw_1881 : (Jvm.Cond.methodLink "SoftControllerLaw" (90 : Nat) ({ cls := "SoftControllerModel", name := "<init>", desc := "()V" } : Jvm.MethodName)) ∈ GW := gw_t (tin_8 _ (List.mem_of_getElem? (i := 201) rfl)) rfl
theorem gw_1882 : (Jvm.Cond.instanceMethod ({ cls := "SoftControllerModel", name := "<init>", desc := "()V" } : Jvm.MethodName)) ∈ GW := gw_t (tin_8 _ (List.mem_of_getElem? (i := 202) rfl)) rfl
theorem gw_1883 : (Jvm.Cond.code ({ cls := "SoftControllerModel", name := "<init>", desc := "()V" } : Jvm.MethodName) prog_14_method_93_code (1 : Nat) (Option.none : Option Jvm.ClassFile.FieldType)) ∈ GW := gw_t (tin_8 _ (List.mem_of_getElem? (i := 203) rfl)) rfl
theorem gw_33 : (Jvm.Cond.classLink "SoftControllerLaw" (8 : Nat) "SoftController") ∈ GW := gw_t (tin_1 _ (List.mem_of_getElem? (i := 33) rfl)) rfl
theorem gw_35 : (Jvm.Cond.methodLink "SoftControllerLaw" (87 : Nat) ({ cls := "SoftController", name := "<init>", desc := "()V" } : Jvm.MethodName)) ∈ GW := gw_t (tin_1 _ (List.mem_of_getElem? (i := 35) rfl)) rfl
theorem gw_36 : (Jvm.Cond.instanceMethod ({ cls := "SoftController", name := "<init>", desc := "()V" } : Jvm.MethodName)) ∈ GW := gw_t (tin_1 _ (List.mem_of_getElem? (i := 36) rfl)) rfl
theorem gw_37 : (Jvm.Cond.code ({ cls := "SoftController", name := "<init>", desc := "()V" } : Jvm.MethodName) prog_1_method_1_code (1 : Nat) (Option.none : Option Jvm.ClassFile.FieldType)) ∈ GW := gw_t (tin_1 _ (List.mem_of_getElem? (i := 37) rfl)) rfl
theorem dL_law_0 : decode cL_law 0 = .ok (.new 8, 3) := by decide +kernel
theorem dL_law_3 : decode cL_law 3 = .ok (.dup, 1) := by decide +kernel
theorem dL_law_4 : decode cL_law 4 = .ok (.invokespecial 87, 3) := by decide +kernel
theorem dL_law_7 : decode cL_law 7 = .ok (.astore_n 1, 1) := by decide +kernel
theorem dL_law_8 : decode cL_law 8 = .ok (.new 88, 3) := by decide +kernel
theorem dL_law_11 : decode cL_law 11 = .ok (.dup, 1) := by decide +kernel
theorem dL_law_12 : decode cL_law 12 = .ok (.invokespecial 90, 3) := by decide +kernel
theorem dL_law_15 : decode cL_law 15 = .ok (.astore_n 2, 1) := by decide +kernel
theorem dL_law_16 : decode cL_law 16 = .ok (.iconst 1, 1) := by decide +kernel
theorem dL_law_17 : decode cL_law 17 = .ok (.newarray .long, 2) := by decide +kernel
theorem dL_law_19 : decode cL_law 19 = .ok (.astore_n 3, 1) := by decide +kernel
theorem dL_law_20 : decode cL_law 20 = .ok (.iconst 0, 1) := by decide +kernel
theorem dL_law_21 : decode cL_law 21 = .ok (.istore 4, 2) := by decide +kernel
theorem dL_law_23 : decode cL_law 23 = .ok (.iload 4, 2) := by decide +kernel
theorem dL_law_25 : decode cL_law 25 = .ok (.aload_n 0, 1) := by decide +kernel
theorem dL_law_26 : decode cL_law 26 = .ok (.arraylength, 1) := by decide +kernel
theorem dL_law_27 : decode cL_law 27 = .ok (.bipush 8, 2) := by decide +kernel
theorem dL_law_29 : decode cL_law 29 = .ok (.isub, 1) := by decide +kernel
theorem dL_law_30 : decode cL_law 30 = .ok (.if_icmp .gt 1320, 3) := by decide +kernel
theorem dL_law_33 : decode cL_law 33 = .ok (.aload_n 0, 1) := by decide +kernel
theorem dL_law_34 : decode cL_law 34 = .ok (.iload 4, 2) := by decide +kernel
theorem dL_law_36 : decode cL_law 36 = .ok (.iaload, 1) := by decide +kernel
theorem dL_law_37 : decode cL_law 37 = .ok (.bipush 31, 2) := by decide +kernel
theorem dL_law_39 : decode cL_law 39 = .ok (.iand, 1) := by decide +kernel
theorem dL_law_40 : decode cL_law 40 = .ok (.tableswitch 1304 0 23 #[112, 185, 210, 251, 264, 292, 303, 340, 380, 457, 482, 510, 550, 590, 674, 714, 766, 794, 862, 902, 930, 944, 1016, 1160], 112) := by decide +kernel
theorem dL_law_1344 : decode cL_law 1344 = .ok (.iinc 4 8, 3) := by decide +kernel
theorem dL_law_1347 : decode cL_law 1347 = .ok (.goto (-1324), 3) := by decide +kernel
theorem dL_law_1350 : decode cL_law 1350 = .ok (.iconst 1, 1) := by decide +kernel
theorem dL_law_1351 : decode cL_law 1351 = .ok (.ireturn, 1) := by decide +kernel
theorem lw_ltw {L n : Nat} (hL : L ≤ 4096) (h : 8 * n ≤ L) : (Int32.ofNat L - 8 < nI (8 * n)) ↔ L < 8 * n + 8 := by
  have e1 : (Int32.ofNat L).toInt = (L : Int) := nI_toInt (show L < 2 ^ 31 by omega)
  have e2 : (nI (8 * n)).toInt = ((8 * n : Nat) : Int) := nI_toInt (by omega)
  have e8 : (8 : Int32).toInt = 8 := rfl
  have e3 : (Int32.ofNat L - 8).toInt = (L : Int) - 8 := by
    rw [tI_sub (by rw [e1, e8]; omega) (by rw [e1, e8]; omega), e1, e8]
  rw [Int32.lt_iff_toInt_lt, e3, e2]
  omega
theorem lw_in {L n : Nat} (hL : L ≤ 4096) (h : 8 * n + 8 ≤ L) (j : Int32) (h0 : 0 ≤ j) (h7 : j ≤ 7) : vp_in (nI (8 * n) + j) L := by
  have e2 : (nI (8 * n)).toInt = ((8 * n : Nat) : Int) := nI_toInt (by omega)
  have g0 : (0 : Int) ≤ j.toInt := Int32.le_iff_toInt_le.mp h0
  have g7 : j.toInt ≤ 7 := Int32.le_iff_toInt_le.mp h7
  rw [vin_iff, tI_add (by rw [e2]; omega) (by rw [e2]; omega), e2]
  omega
theorem lw_in0 {L n : Nat} (hL : L ≤ 4096) (h : 8 * n + 8 ≤ L) : vp_in (nI (8 * n)) L := by
  have e2 : (nI (8 * n)).toInt = ((8 * n : Nat) : Int) := nI_toInt (by omega)
  rw [vin_iff, e2]
  omega
theorem lw_up {n : Nat} (h : n ≤ 512) : nI (8 * n) + Int32.ofInt 8 = nI (8 * (n + 1)) := by
  have e2 : (nI (8 * n)).toInt = ((8 * n : Nat) : Int) := nI_toInt (by omega)
  have e3 : (nI (8 * (n + 1))).toInt = ((8 * (n + 1) : Nat) : Int) := nI_toInt (by omega)
  have e8 : (Int32.ofInt 8).toInt = 8 := rfl
  rw [tI_eq, tI_add (by rw [e2, e8]; omega) (by rw [e2, e8]; omega), e2, e8, e3]
  omega

set_option maxHeartbeats 4000000 in
set_option maxRecDepth 100000 in
theorem lw_loop {p : Program} {l : Launch} {e : Env} {s : State} {m : MethodId} {below : List Frame} {meth : Method} {c : Code} {b L : Nat} {xs : Nat → Int32} {D : va_G} {kA : Nat → ClassId} {V Zc Zr : Nat → Nat} {A : Nat → Prop} {o N : Nat}  (hC : lw_C p l s m meth c b L xs D kA V A) (hN : 100000000000000 ≤ N) (d : Nat) : ∀ (n : Nat) (v : CSt) (u : RSt) (f : Nat → Int64) (H : Heap) (locs : List Loc) (ls : Array Slot), 8 * n ≤ L → L < 8 * n + 8 * d + 8 → UC v → UB u → J10 N n v u → LSw D kA Zc Zr o A s v u f H locs → lv_has ls 8 [(0, .ref b), (1, .ref (Zc 200)), (2, .ref (Zr 200)), (3, .ref o), (4, .int (nI (8 * n)))] → W p l e room_1 s m #[Value.ref b] below meth c H locs (514 + n) (172793 + 6 * n) (lw_Z below #[Value.ref b] s) (F0 m 23 ls []) := by
  have ⟨hst, hx, hb, hr, hml, hown, hts, hG, hX, hbl, hbA, hlocks, hE, hK, hA, hA2, hL9⟩ := hC
  induction d with
  | zero =>
    intro n v u f H locs ls h1 h2 hU hB hT hS hl
    refine lv_iload hx hb dL_law_23 (lv_at hl 4 rfl) ?_
    refine lv_aload_n hx hb dL_law_25 rfl (lv_at hl 0 rfl) ?_
    refine va_slen hx hb hX hbl hbA hS.2.2 dL_law_26 ?_
    refine lv_bipush (v := 8) hx hb dL_law_27 (by decide) ?_
    refine lv_isub hx hb dL_law_29 ?_
    refine lv_icmp_gt (tgt := 1350) hx hb dL_law_30 (by decide) (fun c9 => ?_) (fun c9 => ?_)
    · refine lv_iconst (v := 1) hx hb dL_law_1350 (by decide) ?_
      exact va_forget (fun q hq => hA2 _ (hS.2.2.2.2 q hq)) (W.widen (by omega) (by omega) (lw_ret hx hb hr hlocks dL_law_1351))
    · exact absurd ((lw_ltw hL9 h1).mpr (by omega)) c9
  | succ d ih =>
    intro n v u f H locs ls h1 h2 hU hB hT hS hl
    refine lv_iload hx hb dL_law_23 (lv_at hl 4 rfl) ?_
    refine lv_aload_n hx hb dL_law_25 rfl (lv_at hl 0 rfl) ?_
    refine va_slen hx hb hX hbl hbA hS.2.2 dL_law_26 ?_
    refine lv_bipush (v := 8) hx hb dL_law_27 (by decide) ?_
    refine lv_isub hx hb dL_law_29 ?_
    refine lv_icmp_gt (tgt := 1350) hx hb dL_law_30 (by decide) (fun c9 => ?_) (fun c9 => ?_)
    · refine lv_iconst (v := 1) hx hb dL_law_1350 (by decide) ?_
      exact va_forget (fun q hq => hA2 _ (hS.2.2.2.2 q hq)) (W.widen (by omega) (by omega) (lw_ret hx hb hr hlocks dL_law_1351))
    · have h3 : 8 * n + 8 ≤ L := Nat.le_of_not_lt (fun q => c9 ((lw_ltw hL9 h1).mpr q))
      have hi := lw_in hL9 h3
      have hcs : 514 + n + 1 ≤ room_1.cells := by show _ ≤ 601024; omega
      have hss : 172793 + 6 * n + 6 ≤ room_1.slots := by show _ ≤ 7293034; omega
      have kk : ∀ (v : CSt) (u : RSt) (f : Nat → Int64) (H : Heap) (locs : List Loc) (ls : Array Slot), UC v → UB u → J10 N (n + 1) v u → LSw D kA Zc Zr o A s v u f H locs → lv_has ls 8 [(0, .ref b), (1, .ref (Zc 200)), (2, .ref (Zr 200)), (3, .ref o), (4, .int (nI (8 * n)))] → W p l e room_1 s m #[Value.ref b] below meth c H locs (514 + n + 1) (172793 + 6 * n + 6) (lw_Z below #[Value.ref b] s) (F0 m 1344 ls []) := by
        intro v u f H locs ls hU hB hT hS hl
        refine lv_iinc (v := nI (8 * (n + 1))) (lv' := [(4, .int (nI (8 * (n + 1)))), (0, .ref b), (1, .ref (Zc 200)), (2, .ref (Zr 200)), (3, .ref o)]) hx hb dL_law_1344 hl (k := 4) rfl (lw_up (by omega)) (by decide) rfl (fun ls hl => ?_)
        refine lv_goto (tgt := 23) hx hb dL_law_1347 (by decide) ?_
        exact W.widen (by omega) (by omega) (ih (n + 1) v u f H locs ls (by omega) (by omega) hU hB hT hS (lv_sub hl [1, 2, 3, 4, 0] rfl))
      refine lv_aload_n hx hb dL_law_33 rfl (lv_at hl 0 rfl) ?_
      refine lv_iload hx hb dL_law_34 (lv_at hl 4 rfl) ?_
      refine va_sld hx hb hX hbl hbA hS.2.2 (lw_in0 hL9 h3) dL_law_36 ?_
      refine lv_bipush (v := 31) hx hb dL_law_37 (by decide) ?_
      refine lv_iand hx hb dL_law_39 ?_
      refine lv_topi (fun z9 _ => ?_)
      rcases (show z9.toInt = 0 ∨ z9.toInt = 1 ∨ z9.toInt = 2 ∨ z9.toInt = 3 ∨ z9.toInt = 4 ∨ z9.toInt = 5 ∨ z9.toInt = 6 ∨ z9.toInt = 7 ∨ z9.toInt = 8 ∨ z9.toInt = 9 ∨ z9.toInt = 10 ∨ z9.toInt = 11 ∨ z9.toInt = 12 ∨ z9.toInt = 13 ∨ z9.toInt = 14 ∨ z9.toInt = 15 ∨ z9.toInt = 16 ∨ z9.toInt = 17 ∨ z9.toInt = 18 ∨ z9.toInt = 19 ∨ z9.toInt = 20 ∨ z9.toInt = 21 ∨ z9.toInt = 22 ∨ z9.toInt = 23 ∨ (z9.toInt < 0 ∨ 23 < z9.toInt) by omega) with e9 | e9 | e9 | e9 | e9 | e9 | e9 | e9 | e9 | e9 | e9 | e9 | e9 | e9 | e9 | e9 | e9 | e9 | e9 | e9 | e9 | e9 | e9 | e9 | e9
      · exact lv_tableIn (off := 112) (tgt := 152) hx hb dL_law_40 (by rw [e9]; decide) (by rw [e9]; decide) (by rw [e9]; rfl) (by decide) (lk_0 hC hi hN (show n < 512 by omega) hU hB hT hS hl hcs hss kk)
      · exact lv_tableIn (off := 185) (tgt := 225) hx hb dL_law_40 (by rw [e9]; decide) (by rw [e9]; decide) (by rw [e9]; rfl) (by decide) (lk_1 hC hi hN (show n < 512 by omega) hU hB hT hS hl hcs hss kk)
      · exact lv_tableIn (off := 210) (tgt := 250) hx hb dL_law_40 (by rw [e9]; decide) (by rw [e9]; decide) (by rw [e9]; rfl) (by decide) (lk_2 hC hi hN (show n < 512 by omega) hU hB hT hS hl hcs hss kk)
      · exact lv_tableIn (off := 251) (tgt := 291) hx hb dL_law_40 (by rw [e9]; decide) (by rw [e9]; decide) (by rw [e9]; rfl) (by decide) (lk_3 hC hi hN (show n < 512 by omega) hU hB hT hS hl hcs hss kk)
      · exact lv_tableIn (off := 264) (tgt := 304) hx hb dL_law_40 (by rw [e9]; decide) (by rw [e9]; decide) (by rw [e9]; rfl) (by decide) (lk_4 hC hi hN (show n < 512 by omega) hU hB hT hS hl hcs hss kk)
      · exact lv_tableIn (off := 292) (tgt := 332) hx hb dL_law_40 (by rw [e9]; decide) (by rw [e9]; decide) (by rw [e9]; rfl) (by decide) (lk_5 hC hi hN (show n < 512 by omega) hU hB hT hS hl hcs hss kk)
      · exact lv_tableIn (off := 303) (tgt := 343) hx hb dL_law_40 (by rw [e9]; decide) (by rw [e9]; decide) (by rw [e9]; rfl) (by decide) (lk_6 hC hi hN (show n < 512 by omega) hU hB hT hS hl hcs hss kk)
      · exact lv_tableIn (off := 340) (tgt := 380) hx hb dL_law_40 (by rw [e9]; decide) (by rw [e9]; decide) (by rw [e9]; rfl) (by decide) (lk_7 hC hi hN (show n < 512 by omega) hU hB hT hS hl hcs hss kk)
      · exact lv_tableIn (off := 380) (tgt := 420) hx hb dL_law_40 (by rw [e9]; decide) (by rw [e9]; decide) (by rw [e9]; rfl) (by decide) (lk_8 hC hi hN (show n < 512 by omega) hU hB hT hS hl hcs hss kk)
      · exact lv_tableIn (off := 457) (tgt := 497) hx hb dL_law_40 (by rw [e9]; decide) (by rw [e9]; decide) (by rw [e9]; rfl) (by decide) (lk_9 hC hi hN (show n < 512 by omega) hU hB hT hS hl hcs hss kk)
      · exact lv_tableIn (off := 482) (tgt := 522) hx hb dL_law_40 (by rw [e9]; decide) (by rw [e9]; decide) (by rw [e9]; rfl) (by decide) (lk_10 hC hi hN (show n < 512 by omega) hU hB hT hS hl hcs hss kk)
      · exact lv_tableIn (off := 510) (tgt := 550) hx hb dL_law_40 (by rw [e9]; decide) (by rw [e9]; decide) (by rw [e9]; rfl) (by decide) (lk_11 hC hi hN (show n < 512 by omega) hU hB hT hS hl hcs hss kk)
      · exact lv_tableIn (off := 550) (tgt := 590) hx hb dL_law_40 (by rw [e9]; decide) (by rw [e9]; decide) (by rw [e9]; rfl) (by decide) (lk_12 hC hi hN (show n < 512 by omega) hU hB hT hS hl hcs hss kk)
      · exact lv_tableIn (off := 590) (tgt := 630) hx hb dL_law_40 (by rw [e9]; decide) (by rw [e9]; decide) (by rw [e9]; rfl) (by decide) (lk_13 hC hi hN (show n < 512 by omega) hU hB hT hS hl hcs hss kk)
      · exact lv_tableIn (off := 674) (tgt := 714) hx hb dL_law_40 (by rw [e9]; decide) (by rw [e9]; decide) (by rw [e9]; rfl) (by decide) (lk_14 hC hi hN (show n < 512 by omega) hU hB hT hS hl hcs hss kk)
      · exact lv_tableIn (off := 714) (tgt := 754) hx hb dL_law_40 (by rw [e9]; decide) (by rw [e9]; decide) (by rw [e9]; rfl) (by decide) (lk_15 hC hi hN (show n < 512 by omega) hU hB hT hS hl hcs hss kk)
      · exact lv_tableIn (off := 766) (tgt := 806) hx hb dL_law_40 (by rw [e9]; decide) (by rw [e9]; decide) (by rw [e9]; rfl) (by decide) (lk_16 hC hi hN (show n < 512 by omega) hU hB hT hS hl hcs hss kk)
      · exact lv_tableIn (off := 794) (tgt := 834) hx hb dL_law_40 (by rw [e9]; decide) (by rw [e9]; decide) (by rw [e9]; rfl) (by decide) (lk_17 hC hi hN (show n < 512 by omega) hU hB hT hS hl hcs hss kk)
      · exact lv_tableIn (off := 862) (tgt := 902) hx hb dL_law_40 (by rw [e9]; decide) (by rw [e9]; decide) (by rw [e9]; rfl) (by decide) (lk_18 hC hi hN (show n < 512 by omega) hU hB hT hS hl hcs hss kk)
      · exact lv_tableIn (off := 902) (tgt := 942) hx hb dL_law_40 (by rw [e9]; decide) (by rw [e9]; decide) (by rw [e9]; rfl) (by decide) (lk_19 hC hi hN (show n < 512 by omega) hU hB hT hS hl hcs hss kk)
      · exact lv_tableIn (off := 930) (tgt := 970) hx hb dL_law_40 (by rw [e9]; decide) (by rw [e9]; decide) (by rw [e9]; rfl) (by decide) (lk_20 hC hi hN (show n < 512 by omega) hU hB hT hS hl hcs hss kk)
      · exact lv_tableIn (off := 944) (tgt := 984) hx hb dL_law_40 (by rw [e9]; decide) (by rw [e9]; decide) (by rw [e9]; rfl) (by decide) (lk_21 hC hi hN (show n < 512 by omega) hU hB hT hS hl hcs hss kk)
      · exact lv_tableIn (off := 1016) (tgt := 1056) hx hb dL_law_40 (by rw [e9]; decide) (by rw [e9]; decide) (by rw [e9]; rfl) (by decide) (lk_22 hC hi hN (show n < 512 by omega) hU hB hT hS hl hcs hss kk)
      · exact lv_tableIn (off := 1160) (tgt := 1200) hx hb dL_law_40 (by rw [e9]; decide) (by rw [e9]; decide) (by rw [e9]; rfl) (by decide) (lk_23 hC hi hN (show n < 512 by omega) hU hB hT hS hl hcs hss kk)
      · exact lv_tableOut (tgt := 1344) hx hb dL_law_40 e9 (by decide) (W.widen (by omega) (by omega) (kk v u f H locs ls hU hB (J10_mo hT) hS hl))
set_option maxHeartbeats 4000000 in
set_option maxRecDepth 100000 in
theorem whole_start {p : Program} {e : Env} {s : State} {m : MethodId} {below : List Frame} {meth : Method} {c : Code} (l : Launch) (hst : l.stackTraces = false) {b L : Nat} {xs : Nat → Int32} (hL : L ≤ 4096) (C0 : lw_At p s m meth c b L xs) : W p l e room_1 s m #[Value.ref b] below meth c s.heap [] 0 0 (lw_Z below #[Value.ref b] s) (entryFrame m ([Value.ref b] : List Value).toArray 8) := by
  obtain ⟨hx, hb, hr, hml, hown, htl, hX, hbl, hlocks, hgv⟩ := C0
  have hG := st_hG htl
  obtain ⟨D, kA, hK⟩ := st_K htl
  obtain ⟨V, hE, hB2⟩ := st_E htl hgv
  have hts : ∀ w ∈ Cond.initialized RX11 :: GW, w.before #[Value.ref b] s = true := fun w h => (List.mem_cons.mp h).elim (fun q => q ▸ hG _ gw_1) (hG w)
  generalize hAe : (fun q : Nat => s.heap.size ≤ q) = A at hE hB2
  have hA : ∀ q : Nat, s.heap.size ≤ q → A q := fun q h => by rw [← hAe]; exact h
  have hA2 : ∀ q : Nat, A q → s.heap.size ≤ q := fun q h => by rw [← hAe] at h; exact h
  have hbA : ¬ A b := fun h => Nat.not_le.mpr hbl (hA2 b h)
  have hC : lw_C p l s m meth c b L xs D kA V A := ⟨hst, hx, hb, hr, hml, hown, hts, hG, hX, hbl, hbA, hlocks, hE, hK, hA, hA2, hL⟩
  have hS : va_S A s.heap s.heap [] := va_S.rf
  have hP : va_P D vwCl [] s.heap := aP_nil
  have hD : va_D A [] := aD_nil
  have hl := lv_entry ([.ref b]) (n := 8) (Nat.le_of_ble_eq_true rfl)
  rw [lg_entry_eq]
  generalize (lg_sl ([.ref b]) ++ List.replicate (8 - (lg_sl ([.ref b])).length) Slot.unset).toArray = ls at hl ⊢
  have hl : lv_has ls 8 [(0, .ref b)] := hl
  refine va_new (D := D) (ci := 10) (fs := [.null, .int 0, .null, .null, .null, .null, .null, .null, .null, .null, .int 0, .int 0]) (C := RX11) (T := TX11) (N := 12) hx hb hG gwl_X11 tyX11 tyX11_ok hown (hG _ gw_33) (hG _ gw_34) (hG _ gw_1) hK hP hD hS hA rfl (fun j hj => by rcases (show j = 0 ∨ j = 1 ∨ j = 2 ∨ j = 3 ∨ j = 4 ∨ j = 5 ∨ j = 6 ∨ j = 7 ∨ j = 8 ∨ j = 9 ∨ j = 10 ∨ j = 11 by omega) with rfl | rfl | rfl | rfl | rfl | rfl | rfl | rfl | rfl | rfl | rfl | rfl <;> rfl) (Nat.le_of_ble_eq_true rfl) (Nat.le_of_ble_eq_true rfl) dL_law_0 (fun q1 H hP hD hS => ?_)
  have hP : va_P D vwCl [(q1, .inr (10, [.null, .int 0, .null, .null, .null, .null, .null, .null, .null, .null, .int 0, .int 0]))] H := hP
  have hD : va_D A [(q1, .inr (10, [.null, .int 0, .null, .null, .null, .null, .null, .null, .null, .null, .int 0, .int 0]))] := hD
  refine lv_dup hx hb dL_law_3 rfl ?_
  have hFc := hw_free0 hD hS hA
  refine va_callv (va_runI (As := []) (rest := [.ref q1]) ⟨hx, hb, hml, hown, hts⟩ (m0_X11_init l D kA V H.size q1) (cwI 0 hts (gw_all gw_37) rfl rfl rfl (hG _ gw_1) (hG _ gw_35) (hG _ gw_36) rfl (by decide +kernel) ⟨(Nat.le_of_ble_eq_true rfl), (Nat.le_of_ble_eq_true rfl)⟩) ⟨aP2.blind, aP2.pre hE hB2 hS hP hK hD hFc⟩ rfl rfl hl.1 rfl (lv_room (Nat.le_of_ble_eq_true rfl)) dL_law_4 ⟨(Nat.le_of_ble_eq_true rfl), (Nat.le_of_ble_eq_true rfl)⟩) hS (fun q _ h => hFc q h) hFc (fun x9 t H1 locs ht hvm hw hB hz1 hk1 hS => ?_)
  obtain ⟨Zc, v⟩ := x9
  obtain ⟨hU, hq1, hT0⟩ := hw
  have hq1 : Zc 200 = q1 := hq1
  obtain ⟨hP1, hD1⟩ := hB
  rw [ht] at hP1
  have hP : va_P D vwCl (CW kA Zc v) H1 := hP1
  have hD : va_D A (CW kA Zc v) := hD1.weaken (fun _ q _ h => hFc q.1 h)
  generalize H1 = H at hP hS ⊢
  refine lv_astore_n (lv' := [(1, .ref q1), (0, .ref b)]) hx hb dL_law_7 rfl hl (by decide) rfl (fun ls hl => ?_)
  refine va_new (D := D) (ci := 11) (fs := RN0) (C := RX12) (T := TX12) (N := 121) hx hb hG gwl_X12 tyX12 tyX12_ok hown (hG _ gw_1879) (hG _ gw_1880) (hG _ gw_16) hK hP hD hS hA rfl (fun j hj => by rcases (show j = 0 ∨ j = 1 ∨ j = 2 ∨ j = 3 ∨ j = 4 ∨ j = 5 ∨ j = 6 ∨ j = 7 ∨ j = 8 ∨ j = 9 ∨ j = 10 ∨ j = 11 ∨ j = 12 ∨ j = 13 ∨ j = 14 ∨ j = 15 ∨ j = 16 ∨ j = 17 ∨ j = 18 ∨ j = 19 ∨ j = 20 ∨ j = 21 ∨ j = 22 ∨ j = 23 ∨ j = 24 ∨ j = 25 ∨ j = 26 ∨ j = 27 ∨ j = 28 ∨ j = 29 ∨ j = 30 ∨ j = 31 ∨ j = 32 ∨ j = 33 ∨ j = 34 ∨ j = 35 ∨ j = 36 ∨ j = 37 ∨ j = 38 ∨ j = 39 ∨ j = 40 ∨ j = 41 ∨ j = 42 ∨ j = 43 ∨ j = 44 ∨ j = 45 ∨ j = 46 ∨ j = 47 ∨ j = 48 ∨ j = 49 ∨ j = 50 ∨ j = 51 ∨ j = 52 ∨ j = 53 ∨ j = 54 ∨ j = 55 ∨ j = 56 ∨ j = 57 ∨ j = 58 ∨ j = 59 ∨ j = 60 ∨ j = 61 ∨ j = 62 ∨ j = 63 ∨ j = 64 ∨ j = 65 ∨ j = 66 ∨ j = 67 ∨ j = 68 ∨ j = 69 ∨ j = 70 ∨ j = 71 ∨ j = 72 ∨ j = 73 ∨ j = 74 ∨ j = 75 ∨ j = 76 ∨ j = 77 ∨ j = 78 ∨ j = 79 ∨ j = 80 ∨ j = 81 ∨ j = 82 ∨ j = 83 ∨ j = 84 ∨ j = 85 ∨ j = 86 ∨ j = 87 ∨ j = 88 ∨ j = 89 ∨ j = 90 ∨ j = 91 ∨ j = 92 ∨ j = 93 ∨ j = 94 ∨ j = 95 ∨ j = 96 ∨ j = 97 ∨ j = 98 ∨ j = 99 ∨ j = 100 ∨ j = 101 ∨ j = 102 ∨ j = 103 ∨ j = 104 ∨ j = 105 ∨ j = 106 ∨ j = 107 ∨ j = 108 ∨ j = 109 ∨ j = 110 ∨ j = 111 ∨ j = 112 ∨ j = 113 ∨ j = 114 ∨ j = 115 ∨ j = 116 ∨ j = 117 ∨ j = 118 ∨ j = 119 ∨ j = 120 by omega) with rfl | rfl | rfl | rfl | rfl | rfl | rfl | rfl | rfl | rfl | rfl | rfl | rfl | rfl | rfl | rfl | rfl | rfl | rfl | rfl | rfl | rfl | rfl | rfl | rfl | rfl | rfl | rfl | rfl | rfl | rfl | rfl | rfl | rfl | rfl | rfl | rfl | rfl | rfl | rfl | rfl | rfl | rfl | rfl | rfl | rfl | rfl | rfl | rfl | rfl | rfl | rfl | rfl | rfl | rfl | rfl | rfl | rfl | rfl | rfl | rfl | rfl | rfl | rfl | rfl | rfl | rfl | rfl | rfl | rfl | rfl | rfl | rfl | rfl | rfl | rfl | rfl | rfl | rfl | rfl | rfl | rfl | rfl | rfl | rfl | rfl | rfl | rfl | rfl | rfl | rfl | rfl | rfl | rfl | rfl | rfl | rfl | rfl | rfl | rfl | rfl | rfl | rfl | rfl | rfl | rfl | rfl | rfl | rfl | rfl | rfl | rfl | rfl | rfl | rfl | rfl | rfl | rfl | rfl | rfl | rfl <;> rfl) (Nat.le_of_ble_eq_true rfl) (Nat.le_of_ble_eq_true rfl) dL_law_8 (fun q2 H hP hD hS => ?_)
  refine lv_dup hx hb dL_law_11 rfl ?_
  have hFc := lw_fR hD hS hA
  refine va_callv (va_runI (As := []) (rest := [.ref q2]) ⟨hx, hb, hml, hown, hts⟩ (m0_X12_init l D kA V H.size q2) (cwI 0 hts (gw_all gw_1883) rfl rfl rfl (hG _ gw_16) (hG _ gw_1881) (hG _ gw_1882) rfl (by decide +kernel) ⟨(Nat.le_of_ble_eq_true rfl), (Nat.le_of_ble_eq_true rfl)⟩) ⟨aP.blind, aP.pre hE hS (vaP_mem hP (fun q h => List.mem_append_right _ h)) hK (vaD_right hD) hFc⟩ rfl rfl hl.1 rfl (lv_room (Nat.le_of_ble_eq_true rfl)) dL_law_12 ⟨(Nat.le_of_ble_eq_true rfl), (Nat.le_of_ble_eq_true rfl)⟩) hS (fun q _ h => hFc q h) hFc (fun Zr t H1 locs ht hvm hw hB hz1 hk1 hS => ?_)
  have hq2 : Zr 200 = q2 := hw
  obtain ⟨hP1, hD1⟩ := hB
  rw [ht] at hP1
  obtain ⟨hP, hD⟩ := lw_jR hP hD hk1 hFc hP1 hD1
  generalize H1 = H at hP hS ⊢
  refine lv_astore_n (lv' := [(2, .ref q2), (1, .ref q1), (0, .ref b)]) hx hb dL_law_15 rfl hl (by decide) rfl (fun ls hl => ?_)
  refine lv_iconst (v := 1) hx hb dL_law_16 (by decide) ?_
  refine ax_newa (D := D) (atype := .long) (N' := 1) (n := 1) (ty := .long) (a0 := (1, .inr (.inl (fun _ => 0)))) hx hb (hG _ gw_134) rfl hK hP hD hS hA 1 rfl (fun _ => rfl) (by decide) (by decide) (by decide) (Nat.le_of_ble_eq_true rfl) (Nat.le_of_ble_eq_true rfl) dL_law_17 (fun o H hP hD hS => ?_)
  refine lv_astore_n (lv' := [(3, .ref o), (2, .ref q2), (1, .ref q1), (0, .ref b)]) hx hb dL_law_19 rfl hl (by decide) rfl (fun ls hl => ?_)
  refine lv_iconst (v := 0) hx hb dL_law_20 (by decide) ?_
  refine lv_istore (lv' := [(4, .int 0), (3, .ref o), (2, .ref q2), (1, .ref q1), (0, .ref b)]) hx hb dL_law_21 hl (by decide) rfl (fun ls hl => ?_)
  have hLS : LSw D kA Zc Zr o A s v u00 (fun _ => 0) H locs := ⟨vaP_perm hP (List.perm_append_singleton _ _), vaD_perm hD (List.perm_append_singleton _ _), hS⟩
  subst hq1 hq2
  exact W.widen (Nat.le_of_ble_eq_true rfl) (Nat.le_of_ble_eq_true rfl) (lw_loop (N := 100000000000000) hC (Nat.le_refl _) 512 0 v u00 (fun _ => 0) H locs ls (Nat.zero_le _) (by omega) hU u00_ub (CS9.j10 hT0.2 hT0.1) hLS (lv_sub hl [4, 3, 2, 1, 0] rfl))
