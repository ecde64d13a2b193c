/-! The class made: its cells are CW of a picture with UC. -/
def unkI : Nat → Int32 := fun k => ([0, 0, 8, (-1), 0, 0, 0, 0, 0, 0, 0, 0, 0, 0, (-1)] : List Int32).getD k 0
def mi0 : Nat → Int32 := fun k => ([0, 0, 3000, 0, 0, 0, 0, (-1), 0, 0, 0, 0, 0, 0, 0, 0, 0, 0, 0, 0, 0, 0, 0, 0, 0, 0, 0, 0, 0] : List Int32).getD k 0
def EW (kA : Nat → ClassId) (a1 : Nat) (q_1 : Nat) (q_2 : Nat) (q_10 : Nat) (q_12 : Nat) (q_15 : Nat) (q_24 : Nat) (q_41 : Nat) (q_58 : Nat) (q_66 : Nat) (u_4 : Nat) (u_5 : Nat) (u_6 : Nat) (u_7 : Nat) (u_8 : Nat) (u_9 : Nat → Int64) (u_14 : Nat) (u_17 : Nat) (u_18 : Nat) (u_19 : Nat) (u_20 : Nat) (u_21 : Nat) (u_22 : Nat) (u_23 : Nat) (u_26 : Nat) (u_27 : Nat) (u_28 : Nat) (u_29 : Nat) (u_30 : Nat) (u_31 : Nat) (u_32 : Nat) (u_33 : Nat) (u_34 : Nat) (u_35 : Nat) (u_36 : Nat) (u_37 : Nat) (u_38 : Nat → Option Nat) (u_39 : Nat → Option Nat) (u_40 : Nat → Option Nat) (u_43 : Nat) (u_44 : Nat) (u_45 : Nat) (u_46 : Nat) (u_47 : Nat) (u_48 : Nat) (u_49 : Nat) (u_50 : Nat) (u_51 : Nat) (u_52 : Nat) (u_53 : Nat) (u_54 : Nat) (u_55 : Nat → Option Nat) (u_56 : Nat → Option Nat) (u_57 : Nat → Option Nat) (u_60 : Nat) (u_61 : Nat) (u_62 : Nat) (u_63 : Nat) (u_64 : Nat) (u_65 : Nat) (u_68 : Nat) (u_69 : Nat) (u_70 : Nat) (u_71 : Nat) (u_72 : Nat) : va_W := [(a1, .inr (10, [.ref q_1, .int 0, .ref q_2, .ref q_10, .ref q_58, .ref q_12, .ref q_66, .ref q_15, .ref q_24, .ref q_41, .int 0, .int 3000])), (q_1, .inl (kA 3, 6000, .inl (fun _ => 0))), (q_2, .inr (8, [.ref q_1, .ref u_4, .ref u_5, .ref u_6, .ref u_7, .ref u_8, .int 0, .int 0, .int 0, .int 0, .int (-1)])), (u_4, .inl (kA 0, 1501, .inl (fun _ => 0))), (u_5, .inl (kA 0, 1501, .inl (fun _ => 0))), (u_6, .inl (kA 1, 1501, .inr (.inl (fun _ => 0)))), (u_7, .inl (kA 0, 1501, .inl (fun _ => 0))), (u_8, .inl (kA 1, 30, .inr (.inl u_9))), (q_10, .inr (0, [.ref q_2, .int 0])), (q_12, .inr (1, [.ref u_14])), (u_14, .inl (kA 4, 8, .inr (.inr (.inr (.inr (fun i => if i < 8 then some (u_14 + 1 + i) else none)))))), ((u_14 + 1 + 0), .inl (kA 0, 64, .inl (fun _ => 0))), ((u_14 + 1 + 1), .inl (kA 0, 64, .inl (fun _ => 0))), ((u_14 + 1 + 2), .inl (kA 0, 64, .inl (fun _ => 0))), ((u_14 + 1 + 3), .inl (kA 0, 64, .inl (fun _ => 0))), ((u_14 + 1 + 4), .inl (kA 0, 64, .inl (fun _ => 0))), ((u_14 + 1 + 5), .inl (kA 0, 64, .inl (fun _ => 0))), ((u_14 + 1 + 6), .inl (kA 0, 64, .inl (fun _ => 0))), ((u_14 + 1 + 7), .inl (kA 0, 64, .inl (fun _ => 0))), (q_15, .inr (9, [.ref u_17, .ref u_18, .ref u_19, .int 0, .ref u_20, .ref u_21, .ref u_22, .ref u_23, .int 0, .int 0])), (u_17, .inl (kA 0, 16, .inl (fun _ => 0))), (u_18, .inl (kA 0, 16, .inl (fun _ => 0))), (u_19, .inl (kA 1, 16, .inr (.inl (fun _ => 0)))), (u_20, .inl (kA 0, 100, .inl (fun _ => 0))), (u_21, .inl (kA 0, 100, .inl (fun _ => 0))), (u_22, .inl (kA 0, 100, .inl (fun _ => 0))), (u_23, .inl (kA 1, 100, .inr (.inl (fun _ => 0)))), (q_24, .inr (5, [.ref u_26, .ref u_27, .ref u_28, .ref u_29, .ref u_30, .ref u_31, .ref u_32, .ref u_33, .ref u_34, .ref u_35, .ref u_36, .ref u_37, .int 0, .int 0, .int 0, .int (-1)])), (u_26, .inl (kA 5, 160, .inr (.inr (.inr (.inr u_38))))), (u_27, .inl (kA 5, 8, .inr (.inr (.inr (.inr u_39))))), (u_28, .inr (4, [.long 0, .int 0, .int 8, .int (-1), .int 0, .int 0, .int 0, .int 0, .int 0, .int 0, .long 0, .int 0, .int 0, .int 0, .int (-1)])), (u_29, .inl (kA 4, 5, .inr (.inr (.inr (.inr (fun i => if i < 5 then some (u_29 + 1 + i) else none)))))), ((u_29 + 1 + 0), .inl (kA 0, 160, .inl (fun _ => 0))), ((u_29 + 1 + 1), .inl (kA 0, 160, .inl (fun _ => 0))), ((u_29 + 1 + 2), .inl (kA 0, 160, .inl (fun _ => 0))), ((u_29 + 1 + 3), .inl (kA 0, 160, .inl (fun _ => 0))), ((u_29 + 1 + 4), .inl (kA 0, 160, .inl (fun _ => 0))), (u_30, .inl (kA 0, 5, .inl (fun _ => 0))), (u_31, .inl (kA 6, 8, .inr (.inr (.inr (.inr u_40))))), (u_32, .inl (kA 0, 3200, .inl (fun _ => 0))), (u_33, .inl (kA 0, 3200, .inl (fun _ => 0))), (u_34, .inl (kA 0, 3200, .inl (fun _ => 0))), (u_35, .inl (kA 0, 3200, .inl (fun _ => 0))), (u_36, .inl (kA 1, 750, .inr (.inl (fun _ => 0)))), (u_37, .inl (kA 1, 750, .inr (.inl (fun _ => 0)))), (q_41, .inr (5, [.ref u_43, .ref u_44, .ref u_45, .ref u_46, .ref u_47, .ref u_48, .ref u_49, .ref u_50, .ref u_51, .ref u_52, .ref u_53, .ref u_54, .int 0, .int 0, .int 0, .int (-1)])), (u_43, .inl (kA 5, 160, .inr (.inr (.inr (.inr u_55))))), (u_44, .inl (kA 5, 8, .inr (.inr (.inr (.inr u_56))))), (u_45, .inr (4, [.long 0, .int 0, .int 8, .int (-1), .int 0, .int 0, .int 0, .int 0, .int 0, .int 0, .long 0, .int 0, .int 0, .int 0, .int (-1)])), (u_46, .inl (kA 4, 5, .inr (.inr (.inr (.inr (fun i => if i < 5 then some (u_46 + 1 + i) else none)))))), ((u_46 + 1 + 0), .inl (kA 0, 160, .inl (fun _ => 0))), ((u_46 + 1 + 1), .inl (kA 0, 160, .inl (fun _ => 0))), ((u_46 + 1 + 2), .inl (kA 0, 160, .inl (fun _ => 0))), ((u_46 + 1 + 3), .inl (kA 0, 160, .inl (fun _ => 0))), ((u_46 + 1 + 4), .inl (kA 0, 160, .inl (fun _ => 0))), (u_47, .inl (kA 0, 5, .inl (fun _ => 0))), (u_48, .inl (kA 6, 8, .inr (.inr (.inr (.inr u_57))))), (u_49, .inl (kA 0, 3200, .inl (fun _ => 0))), (u_50, .inl (kA 0, 3200, .inl (fun _ => 0))), (u_51, .inl (kA 0, 3200, .inl (fun _ => 0))), (u_52, .inl (kA 0, 3200, .inl (fun _ => 0))), (u_53, .inl (kA 1, 750, .inr (.inl (fun _ => 0)))), (u_54, .inl (kA 1, 750, .inr (.inl (fun _ => 0)))), (q_58, .inr (3, [.ref q_2, .ref u_60, .ref u_61, .ref q_41, .int 0, .int 0, .int 0, .int 0])), (u_60, .inr (7, [.ref q_2, .ref u_62, .ref u_63, .ref u_64, .ref u_65, .int 0, .ref q_41, .int 0, .long 0])), (u_62, .inl (kA 0, 250, .inl (fun _ => 0))), (u_63, .inl (kA 0, 250, .inl (fun _ => 0))), (u_64, .inl (kA 0, 250, .inl (fun _ => 0))), (u_65, .inl (kA 0, 250, .inl (fun _ => 0))), (u_61, .inl (kA 0, 5, .inl (fun _ => 0))), (q_66, .inr (2, [.ref u_68, .ref u_69, .ref q_12, .ref u_70, .ref u_71, .ref u_72, .ref q_24, .int 0, .int 0, .int 0, .int 0, .int 0, .int 0, .int 0, .int 0, .int 0, .int 0, .int 0])), (u_68, .inl (kA 1, 6096, .inr (.inl (fun _ => 0)))), (u_69, .inl (kA 1, 2000, .inr (.inl (fun _ => 0)))), (u_70, .inl (kA 0, 8, .inl (fun _ => 0))), (u_71, .inl (kA 0, 8, .inl (fun _ => 0))), (u_72, .inl (kA 0, 8, .inl (fun _ => 0)))]
set_option maxHeartbeats 8000000 in
set_option maxRecDepth 100000 in
theorem cw_made (kA : Nat → ClassId) (a1 : Nat) (q_1 : Nat) (q_2 : Nat) (q_10 : Nat) (q_12 : Nat) (q_15 : Nat) (q_24 : Nat) (q_41 : Nat) (q_58 : Nat) (q_66 : Nat) (u_4 : Nat) (u_5 : Nat) (u_6 : Nat) (u_7 : Nat) (u_8 : Nat) (u_9 : Nat → Int64) (u_14 : Nat) (u_17 : Nat) (u_18 : Nat) (u_19 : Nat) (u_20 : Nat) (u_21 : Nat) (u_22 : Nat) (u_23 : Nat) (u_26 : Nat) (u_27 : Nat) (u_28 : Nat) (u_29 : Nat) (u_30 : Nat) (u_31 : Nat) (u_32 : Nat) (u_33 : Nat) (u_34 : Nat) (u_35 : Nat) (u_36 : Nat) (u_37 : Nat) (u_38 : Nat → Option Nat) (u_39 : Nat → Option Nat) (u_40 : Nat → Option Nat) (u_43 : Nat) (u_44 : Nat) (u_45 : Nat) (u_46 : Nat) (u_47 : Nat) (u_48 : Nat) (u_49 : Nat) (u_50 : Nat) (u_51 : Nat) (u_52 : Nat) (u_53 : Nat) (u_54 : Nat) (u_55 : Nat → Option Nat) (u_56 : Nat → Option Nat) (u_57 : Nat → Option Nat) (u_60 : Nat) (u_61 : Nat) (u_62 : Nat) (u_63 : Nat) (u_64 : Nat) (u_65 : Nat) (u_68 : Nat) (u_69 : Nat) (u_70 : Nat) (u_71 : Nat) (u_72 : Nat) (GA_1 GB_1 GC_1 : va_W) (hw_1 : NGq 4 NPq 160 u_38 [] GA_1 ∧ NGq 6 TPz 8 u_40 GA_1 GB_1 ∧ NGi 4 NP8 8 u_39 GB_1 GC_1) (GA_2 GB_2 GC_2 : va_W) (hw_2 : NGq 4 NPq 160 u_55 [] GA_2 ∧ NGq 6 TPz 8 u_57 GA_2 GB_2 ∧ NGi 4 NP8 8 u_56 GB_2 GC_2) (hw_9 : u_9 = wf 151) : ∃ (Z : Nat → Nat) (v : CSt), UC v ∧ Z 200 = a1 ∧ (v.1 0 = 0 ∧ CS9 v) ∧ (EW kA a1 q_1 q_2 q_10 q_12 q_15 q_24 q_41 q_58 q_66 u_4 u_5 u_6 u_7 u_8 u_9 u_14 u_17 u_18 u_19 u_20 u_21 u_22 u_23 u_26 u_27 u_28 u_29 u_30 u_31 u_32 u_33 u_34 u_35 u_36 u_37 u_38 u_39 u_40 u_43 u_44 u_45 u_46 u_47 u_48 u_49 u_50 u_51 u_52 u_53 u_54 u_55 u_56 u_57 u_60 u_61 u_62 u_63 u_64 u_65 u_68 u_69 u_70 u_71 u_72 ++ (GC_2 ++ GC_1)).Perm (CW kA Z v) := by
  obtain ⟨⟨g11, c11, hc11, hf11, rfl⟩, ⟨g12, c12, hc12, hf12, rfl⟩, ⟨g13, c13, hc13, hf13, rfl⟩⟩ := hw_1
  obtain ⟨x11, hx11, hr11, hz11⟩ := np_all hc11
  obtain ⟨x13, hx13, hr13, he13, hz13⟩ := np_al8 hc13
  obtain ⟨⟨g21, c21, hc21, hf21, rfl⟩, ⟨g22, c22, hc22, hf22, rfl⟩, ⟨g23, c23, hc23, hf23, rfl⟩⟩ := hw_2
  obtain ⟨x21, hx21, hr21, hz21⟩ := np_all hc21
  obtain ⟨x23, hx23, hr23, he23, hz23⟩ := np_al8 hc23
  obtain ⟨nn, hnn⟩ : ∃ nn : Nat → Nat, nn = two6 169 (nm6 g11 g13 u_28) (nm6 g21 g23 u_45) := ⟨_, rfl⟩
  obtain ⟨tt, htt⟩ : ∃ tt : Nat → Nat, tt = two6 8 g12 g22 := ⟨_, rfl⟩
  obtain ⟨xx, hxx⟩ : ∃ xx : Nat → (Nat → Int32) × (Nat → Int64), xx = two6 169 (nm6 x11 x13 (unkI, fun _ => 0)) (nm6 x21 x23 (unkI, fun _ => 0)) := ⟨_, rfl⟩
  obtain ⟨Z, hZ⟩ : ∃ Z, Z = ZW [a1, q_1, q_2, u_4, u_5, u_6, u_7, u_8, q_10, q_12, u_14, (u_14 + 1 + 0), (u_14 + 1 + 1), (u_14 + 1 + 2), (u_14 + 1 + 3), (u_14 + 1 + 4), (u_14 + 1 + 5), (u_14 + 1 + 6), (u_14 + 1 + 7), q_15, u_17, u_18, u_19, u_20, u_21, u_22, u_23, q_58, u_61, u_60, u_62, u_63, u_64, u_65, q_66, u_68, u_69, u_70, u_71, u_72] [q_24, u_26, u_27, u_29, (u_29 + 1 + 0), (u_29 + 1 + 1), (u_29 + 1 + 2), (u_29 + 1 + 3), (u_29 + 1 + 4), u_30, u_31, u_32, u_33, u_34, u_35, u_36, u_37] [q_41, u_43, u_44, u_46, (u_46 + 1 + 0), (u_46 + 1 + 1), (u_46 + 1 + 2), (u_46 + 1 + 3), (u_46 + 1 + 4), u_47, u_48, u_49, u_50, u_51, u_52, u_53, u_54] tt nn := ⟨_, rfl⟩
  obtain ⟨v, hv⟩ : ∃ v : CSt, v = (mi0, fun _ => 0, fun _ _ => 0, fun k => if k = 207 then u_9 else fun _ => 0, fun _ k => if k = 15 then (-1) else 0, fun _ _ _ => 0, fun _ _ _ => 0, fun _ _ => 0, fun q => (xx q).1, fun q => (xx q).2, fun k => [0, 1, 1, 1, 0].getD k 0) := ⟨_, rfl⟩
  have zn : ∀ i, Z (1000 + i) = nn i := fun i => by rw [hZ]; exact zw_n i
  have zt : ∀ i, i < 600 → Z (400 + i) = tt i := fun i h => by rw [hZ]; exact zw_t i h
  have n11 : ∀ i, i < 160 → nn (0 + i) = g11 i ∧ xx (0 + i) = x11 i := fun i h => by
    rw [hnn, hxx]; unfold two6 nm6
    rw [Nat.zero_add, if_pos (by omega), if_pos h, if_pos (by omega), if_pos h]; exact ⟨rfl, rfl⟩
  have n13 : ∀ i, i < 8 → nn (160 + i) = g13 i ∧ xx (160 + i) = x13 i := fun i h => by
    rw [hnn, hxx]; unfold two6 nm6
    rw [if_pos (by omega), if_neg (by omega), if_pos (by omega), if_pos (by omega), if_neg (by omega), if_pos (by omega), Nat.add_sub_cancel_left]; exact ⟨rfl, rfl⟩
  have t1 : ∀ i, i < 8 → tt (0 + i) = g12 i := fun i h => by
    rw [htt]; unfold two6
    rw [Nat.zero_add, if_pos h]
  have n21 : ∀ i, i < 160 → nn (169 + i) = g21 i ∧ xx (169 + i) = x21 i := fun i h => by
    rw [hnn, hxx]; unfold two6 nm6
    rw [if_neg (by omega), Nat.add_sub_cancel_left, if_pos h, if_neg (by omega), if_pos h]; exact ⟨rfl, rfl⟩
  have n23 : ∀ i, i < 8 → nn (329 + i) = g23 i ∧ xx (329 + i) = x23 i := fun i h => by
    rw [hnn, hxx]; unfold two6 nm6
    rw [if_neg (by omega), if_neg (by omega), if_pos (by omega), if_neg (by omega), if_neg (by omega), if_pos (by omega), show 329 + i - 169 - 160 = i by omega]; exact ⟨rfl, rfl⟩
  have t2 : ∀ i, i < 8 → tt (8 + i) = g22 i := fun i h => by
    rw [htt]; unfold two6
    rw [if_neg (by omega), Nat.add_sub_cancel_left]
  have e11 : u_38 = fun i => if i < 160 then some (Z (1000 + (169 * 0 + i))) else none := fz_eq (g := u_38) hf11 (fun i h => by rw [zn]; exact (n11 i h).1)
  have e12 : u_40 = fun i => if i < 8 then some (Z (400 + (8 * 0 + i))) else none := fz_eq (g := u_40) hf12 (fun i h => by rw [zt _ (by omega)]; exact t1 i h)
  have e13 : u_39 = fun i => if i < 8 then some (Z (1000 + (169 * 0 + (160 + i)))) else none := fz_eq (g := u_39) hf13 (fun i h => by rw [zn, show 169 * 0 + (160 + i) = 160 + i by omega]; exact (n13 i h).1)
  have e14 : (fun i => if i < 5 then some (u_29 + 1 + i) else none) = (fun i => if i < 5 then some (Z (300 + 50 * 0 + (4 + i))) else none) := fz_eq (g := fun _ => none) (fun _ => rfl) (fun i h => by
    rw [hZ]
    rcases (show i = 0 ∨ i = 1 ∨ i = 2 ∨ i = 3 ∨ i = 4 by omega) with rfl | rfl | rfl | rfl | rfl <;> rfl)
  have e21 : u_55 = fun i => if i < 160 then some (Z (1000 + (169 * 1 + i))) else none := fz_eq (g := u_55) hf21 (fun i h => by rw [zn]; exact (n21 i h).1)
  have e22 : u_57 = fun i => if i < 8 then some (Z (400 + (8 * 1 + i))) else none := fz_eq (g := u_57) hf22 (fun i h => by rw [zt _ (by omega)]; exact t2 i h)
  have e23 : u_56 = fun i => if i < 8 then some (Z (1000 + (169 * 1 + (160 + i)))) else none := fz_eq (g := u_56) hf23 (fun i h => by rw [zn, show 169 * 1 + (160 + i) = 329 + i by omega]; exact (n23 i h).1)
  have e24 : (fun i => if i < 5 then some (u_46 + 1 + i) else none) = (fun i => if i < 5 then some (Z (300 + 50 * 1 + (4 + i))) else none) := fz_eq (g := fun _ => none) (fun _ => rfl) (fun i h => by
    rw [hZ]
    rcases (show i = 0 ∨ i = 1 ∨ i = 2 ∨ i = 3 ∨ i = 4 by omega) with rfl | rfl | rfl | rfl | rfl <;> rfl)
  have e5 : (fun i => if i < 8 then some (u_14 + 1 + i) else none) = (fun i => if i < 8 then some (Z (211 + i)) else none) := fz_eq (g := fun _ => none) (fun _ => rfl) (fun i h => by
    rw [hZ]
    rcases (show i = 0 ∨ i = 1 ∨ i = 2 ∨ i = 3 ∨ i = 4 ∨ i = 5 ∨ i = 6 ∨ i = 7 by omega) with rfl | rfl | rfl | rfl | rfl | rfl | rfl | rfl <;> rfl)
  have p11 : ((List.range 160).map (fun i => ((g11 i, .inr (4, c11 i)) : Nat × va_E))).reverse.Perm ((List.range 160).map (fun i => NW Z v (0 + i))) := by
    refine (List.reverse_perm _).trans (List.Perm.of_eq (List.map_congr_left fun i hi => ?_))
    have hi := List.mem_range.mp hi
    unfold NW
    rw [zn, (n11 i hi).1, hx11 i hi, nf_eq (v := v) (q := 0 + i) (a := (x11 i).1) (b := (x11 i).2) (by rw [hv, ← (n11 i hi).2]) (by rw [hv, ← (n11 i hi).2])]
  have p13 : ((List.range 8).map (fun i => ((g13 i, .inr (4, c13 i)) : Nat × va_E))).reverse.Perm ((List.range 8).map (fun i => NW Z v (160 + i))) := by
    refine (List.reverse_perm _).trans (List.Perm.of_eq (List.map_congr_left fun i hi => ?_))
    have hi := List.mem_range.mp hi
    unfold NW
    rw [zn, (n13 i hi).1, hx13 i hi, nf_eq (v := v) (q := 160 + i) (a := (x13 i).1) (b := (x13 i).2) (by rw [hv, ← (n13 i hi).2]) (by rw [hv, ← (n13 i hi).2])]
  have p12 : ((List.range 8).map (fun i => ((g12 i, .inr (6, c12 i)) : Nat × va_E))).reverse.Perm ((List.range 8).map (fun i => TW Z v (0 + i))) := by
    refine (List.reverse_perm _).trans (List.Perm.of_eq (List.map_congr_left fun i hi => ?_))
    have hi := List.mem_range.mp hi
    unfold TW
    rw [zt _ (by omega), t1 i hi, hc12 i hi, hv]
    rfl
  have p21 : ((List.range 160).map (fun i => ((g21 i, .inr (4, c21 i)) : Nat × va_E))).reverse.Perm ((List.range 160).map (fun i => NW Z v (169 + i))) := by
    refine (List.reverse_perm _).trans (List.Perm.of_eq (List.map_congr_left fun i hi => ?_))
    have hi := List.mem_range.mp hi
    unfold NW
    rw [zn, (n21 i hi).1, hx21 i hi, nf_eq (v := v) (q := 169 + i) (a := (x21 i).1) (b := (x21 i).2) (by rw [hv, ← (n21 i hi).2]) (by rw [hv, ← (n21 i hi).2])]
  have p23 : ((List.range 8).map (fun i => ((g23 i, .inr (4, c23 i)) : Nat × va_E))).reverse.Perm ((List.range 8).map (fun i => NW Z v (329 + i))) := by
    refine (List.reverse_perm _).trans (List.Perm.of_eq (List.map_congr_left fun i hi => ?_))
    have hi := List.mem_range.mp hi
    unfold NW
    rw [zn, (n23 i hi).1, hx23 i hi, nf_eq (v := v) (q := 329 + i) (a := (x23 i).1) (b := (x23 i).2) (by rw [hv, ← (n23 i hi).2]) (by rw [hv, ← (n23 i hi).2])]
  have p22 : ((List.range 8).map (fun i => ((g22 i, .inr (6, c22 i)) : Nat × va_E))).reverse.Perm ((List.range 8).map (fun i => TW Z v (8 + i))) := by
    refine (List.reverse_perm _).trans (List.Perm.of_eq (List.map_congr_left fun i hi => ?_))
    have hi := List.mem_range.mp hi
    unfold TW
    rw [zt _ (by omega), t2 i hi, hc22 i hi, hv]
    rfl
  have hU : UC v := by
    rw [hv]
    have any : ∀ x : Int32, -2147483648 ≤ x.toInt ∧ x.toInt ≤ 2147483647 := fun x => ⟨x.le_toInt, by have := x.toInt_lt; omega⟩
    have um : ∀ k, (rM k).1 ≤ (unkI k).toInt ∧ (unkI k).toInt ≤ (rM k).2 := fun k => by
      unfold rM
      by_cases e3 : k = 3
      · subst e3; decide
      by_cases e4 : k = 4
      · subst e4; decide
      by_cases e5 : k = 5
      · subst e5; decide
      by_cases e7 : k = 7
      · subst e7; decide
      by_cases e8 : k = 8
      · subst e8; decide
      by_cases e9 : k = 9
      · subst e9; decide
      rw [if_neg e3, if_neg e4, if_neg e5, if_neg e7, if_neg e8, if_neg e9]
      exact any _
    refine ⟨fun k => ?_, fun q k => ?_, fun q i => ⟨(by show (0 : Int) ≤ (0 : Int32).toInt; decide), (by show (0 : Int32).toInt ≤ 160; decide), fun _ => (by show (0 : Int32).toInt ≤ 8; decide)⟩, fun q k => ?_, fun q k => ?_, fun k => ?_, fun q i _ => ⟨(by show (0 : Int) ≤ (0 : Int32).toInt; decide), (by show (0 : Int32).toInt ≤ 4; decide)⟩⟩
    · show (rI k).1 ≤ (mi0 k).toInt ∧ (mi0 k).toInt ≤ (rI k).2
      unfold rI
      by_cases e0 : k = 0
      · subst e0; decide
      by_cases e3 : k = 3
      · subst e3; decide
      by_cases e4 : k = 4
      · subst e4; decide
      by_cases e5 : k = 5
      · subst e5; decide
      by_cases e9 : k = 9
      · subst e9; decide
      by_cases e10 : k = 10
      · subst e10; decide
      by_cases e11 : k = 11
      · subst e11; decide
      by_cases e12 : k = 12
      · subst e12; decide
      by_cases e16 : k = 16
      · subst e16; decide
      by_cases e17 : k = 17
      · subst e17; decide
      by_cases e21 : k = 21
      · subst e21; decide
      by_cases e25 : k = 25
      · subst e25; decide
      rw [if_neg e0, if_neg e3, if_neg e4, if_neg e5, if_neg e9, if_neg e10, if_neg e11, if_neg e12, if_neg e16, if_neg e17, if_neg e21, if_neg e25]
      exact any _
    · show (rP k).1 ≤ (if k = 15 then (-1 : Int32) else 0).toInt ∧ (if k = 15 then (-1 : Int32) else 0).toInt ≤ (rP k).2
      unfold rP
      by_cases e12 : k = 12
      · subst e12; decide
      by_cases e13 : k = 13
      · subst e13; decide
      by_cases e14 : k = 14
      · subst e14; decide
      rw [if_neg e12, if_neg e13, if_neg e14]
      exact any _
    · show (rT k).1 ≤ (0 : Int32).toInt ∧ (0 : Int32).toInt ≤ (rT k).2
      unfold rT
      by_cases e3 : k = 3
      · subst e3; decide
      rw [if_neg e3]; exact any _
    · show (rM k).1 ≤ ((xx q).1 k).toInt ∧ ((xx q).1 k).toInt ≤ (rM k).2
      rw [hxx]; unfold two6 nm6
      repeat' split
      all_goals first | exact hr11 _ _ | exact hr13 _ _ | exact hr21 _ _ | exact hr23 _ _ | exact um _
    · show [0, 1, 1, 1, 0].getD k 0 < 2
      by_cases h : k < 5
      · rcases (show k = 0 ∨ k = 1 ∨ k = 2 ∨ k = 3 ∨ k = 4 by omega) with rfl | rfl | rfl | rfl | rfl <;> decide
      · rw [List.getD_eq_getElem?_getD, List.getElem?_eq_none (by show 5 ≤ k; omega)]; decide
  have hCS : CS0 v := by
    refine ⟨by rw [hv]; exact ⟨rfl, rfl, rfl, rfl, rfl, rfl, fun k hk => if_neg hk, rfl, rfl, rfl, rfl⟩, by rw [hv]; rfl, by rw [hv]; show (if (207 : Nat) = 207 then u_9 else fun _ => 0) = wf 151; rw [if_pos rfl]; exact hw_9, fun q hq => ?_⟩
    rcases (show q = 0 ∨ q = 1 by omega) with rfl | rfl
    · refine ⟨by rw [hv, hxx]; rfl, by rw [hv, hxx]; rfl, by rw [hv, hxx]; rfl, fun k hk => ?_⟩
      rw [show 169 * 0 + (160 + k) = 160 + k by omega]
      have e : xx (160 + k) = x13 k := (n13 k hk).2
      obtain ⟨a1, a2, a3, a4⟩ := he13 k hk
      rw [hv]
      refine ⟨?_, ?_, ?_, ?_⟩
      · show (xx (160 + k)).1 2 = 7
        rw [e]; exact a2
      · show (xx (160 + k)).2 0 = _
        rw [e]; exact a1
      · show (xx (160 + k)).1 4 = _
        rw [e]; exact a3
      · show (xx (160 + k)).1 11 = _
        rw [e]; exact a4
    · refine ⟨by rw [hv, hxx]; rfl, by rw [hv, hxx]; rfl, by rw [hv, hxx]; rfl, fun k hk => ?_⟩
      rw [show 169 * 1 + (160 + k) = 329 + k by omega]
      have e : xx (329 + k) = x23 k := (n23 k hk).2
      obtain ⟨a1, a2, a3, a4⟩ := he23 k hk
      rw [hv]
      refine ⟨?_, ?_, ?_, ?_⟩
      · show (xx (329 + k)).1 2 = 7
        rw [e]; exact a2
      · show (xx (329 + k)).2 0 = _
        rw [e]; exact a1
      · show (xx (329 + k)).1 4 = _
        rw [e]; exact a3
      · show (xx (329 + k)).1 11 = _
        rw [e]; exact a4
  have hC9 : ∀ m, mL v m 10 = 0 := by
    intro m
    rw [hv]
    show (xx m).2 10 = 0
    rw [hxx]; unfold two6 nm6
    repeat' split
    all_goals first | exact hz11 _ | exact hz13 _ | exact hz21 _ | exact hz23 _ | rfl
  refine ⟨Z, v, hU, by rw [hZ]; rfl, ⟨by rw [hv]; rfl, hCS, hC9⟩, ?_⟩
  unfold CW
  rw [map_names (NW Z v), map_tasks (TW Z v)]
  refine List.Perm.trans ?_ (perm_made (CWL kA Z v) _ _ _ _ _ _ _ _)
  refine List.Perm.append ?_ (List.Perm.append (List.Perm.append p23 (List.Perm.append p22 ?_)) (List.Perm.append p13 (List.Perm.append ?_ ?_)))
  · subst e11 e12 e13 e21 e22 e23
    unfold EW
    rw [e14, e24, e5]
    have hn0 : NW Z v 168 = (u_28, .inr (4, [.long 0, .int (unkI 1), .int (unkI 2), .int (unkI 3), .int (unkI 4), .int (unkI 5), .int (unkI 6), .int (unkI 7), .int (unkI 8), .int (unkI 9), .long 0, .int (unkI 11), .int (unkI 12), .int (unkI 13), .int (unkI 14)])) := by
      unfold NW; rw [show (1000 + 168) = 1000 + 168 from rfl, zn, hnn, hv, hxx]; rfl
    have hn1 : NW Z v 337 = (u_45, .inr (4, [.long 0, .int (unkI 1), .int (unkI 2), .int (unkI 3), .int (unkI 4), .int (unkI 5), .int (unkI 6), .int (unkI 7), .int (unkI 8), .int (unkI 9), .long 0, .int (unkI 11), .int (unkI 12), .int (unkI 13), .int (unkI 14)])) := by
      unfold NW; rw [zn, hnn, hv, hxx]; rfl
    rw [hn0, hn1]
    refine perm_idx [0, 1, 2, 3, 4, 5, 6, 7, 8, 9, 10, 11, 12, 13, 14, 15, 16, 17, 18, 19, 20, 21, 22, 23, 24, 25, 26, 63, 69, 64, 65, 66, 67, 68, 70, 71, 72, 73, 74, 75, 27, 28, 29, 31, 32, 33, 34, 35, 36, 37, 38, 39, 40, 41, 42, 43, 44, 45, 46, 47, 49, 50, 51, 52, 53, 54, 55, 56, 57, 58, 59, 60, 61, 62, 30, 48] 76 rfl (by decide +kernel) ?_
    rw [hv, hZ]
    refine lc6 (by rfl) ?_
    refine lc6 (by rfl) ?_
    refine lc6 (by rfl) ?_
    refine lc6 (by rfl) ?_
    refine lc6 (by rfl) ?_
    refine lc6 (by rfl) ?_
    refine lc6 (by rfl) ?_
    refine lc6 (by rfl) ?_
    refine lc6 (by rfl) ?_
    refine lc6 (by rfl) ?_
    refine lc6 (by rfl) ?_
    refine lc6 (by rfl) ?_
    refine lc6 (by rfl) ?_
    refine lc6 (by rfl) ?_
    refine lc6 (by rfl) ?_
    refine lc6 (by rfl) ?_
    refine lc6 (by rfl) ?_
    refine lc6 (by rfl) ?_
    refine lc6 (by rfl) ?_
    refine lc6 (by rfl) ?_
    refine lc6 (by rfl) ?_
    refine lc6 (by rfl) ?_
    refine lc6 (by rfl) ?_
    refine lc6 (by rfl) ?_
    refine lc6 (by rfl) ?_
    refine lc6 (by rfl) ?_
    refine lc6 (by rfl) ?_
    refine lc6 (by rfl) ?_
    refine lc6 (by rfl) ?_
    refine lc6 (by rfl) ?_
    refine lc6 (by rfl) ?_
    refine lc6 (by rfl) ?_
    refine lc6 (by rfl) ?_
    refine lc6 (by rfl) ?_
    refine lc6 (by rfl) ?_
    refine lc6 (by rfl) ?_
    refine lc6 (by rfl) ?_
    refine lc6 (by rfl) ?_
    refine lc6 (by rfl) ?_
    refine lc6 (by rfl) ?_
    refine lc6 (by rw [hnn]; rfl) ?_
    refine lc6 (by rfl) ?_
    refine lc6 (by rfl) ?_
    refine lc6 (by rfl) ?_
    refine lc6 (by rfl) ?_
    refine lc6 (by rfl) ?_
    refine lc6 (by rfl) ?_
    refine lc6 (by rfl) ?_
    refine lc6 (by rfl) ?_
    refine lc6 (by rfl) ?_
    refine lc6 (by rfl) ?_
    refine lc6 (by rfl) ?_
    refine lc6 (by rfl) ?_
    refine lc6 (by rfl) ?_
    refine lc6 (by rfl) ?_
    refine lc6 (by rfl) ?_
    refine lc6 (by rfl) ?_
    refine lc6 (by rw [hnn]; rfl) ?_
    refine lc6 (by rfl) ?_
    refine lc6 (by rfl) ?_
    refine lc6 (by rfl) ?_
    refine lc6 (by rfl) ?_
    refine lc6 (by rfl) ?_
    refine lc6 (by rfl) ?_
    refine lc6 (by rfl) ?_
    refine lc6 (by rfl) ?_
    refine lc6 (by rfl) ?_
    refine lc6 (by rfl) ?_
    refine lc6 (by rfl) ?_
    refine lc6 (by rfl) ?_
    refine lc6 (by rfl) ?_
    refine lc6 (by rfl) ?_
    refine lc6 (by rfl) ?_
    refine lc6 (by rfl) ?_
    refine lc6 (by rfl) ?_
    refine lc6 (by rfl) ?_
    rfl
  · rw [List.append_nil]; exact p21
  · have h := p12; rw [show (fun i => TW Z v (0 + i)) = TW Z v from funext fun i => by rw [Nat.zero_add]] at h; exact h
  · rw [List.append_nil]; have h := p11; rw [show (fun i => NW Z v (0 + i)) = NW Z v from funext fun i => by rw [Nat.zero_add]] at h; exact h
