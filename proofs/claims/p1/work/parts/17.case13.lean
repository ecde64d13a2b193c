theorem dL_law_809 : decode cL_law 809 = .ok (.aload_n 1, 1) := by decide +kernel
theorem dL_law_810 : decode cL_law 810 = .ok (.aload_n 0, 1) := by decide +kernel
theorem dL_law_811 : decode cL_law 811 = .ok (.iload 4, 2) := by decide +kernel
theorem dL_law_813 : decode cL_law 813 = .ok (.iconst 1, 1) := by decide +kernel
theorem dL_law_814 : decode cL_law 814 = .ok (.iadd, 1) := by decide +kernel
theorem dL_law_815 : decode cL_law 815 = .ok (.iaload, 1) := by decide +kernel
theorem dL_law_816 : decode cL_law 816 = .ok (.aload_n 0, 1) := by decide +kernel
theorem dL_law_817 : decode cL_law 817 = .ok (.iload 4, 2) := by decide +kernel
theorem dL_law_819 : decode cL_law 819 = .ok (.iconst 2, 1) := by decide +kernel
theorem dL_law_820 : decode cL_law 820 = .ok (.iadd, 1) := by decide +kernel
theorem dL_law_821 : decode cL_law 821 = .ok (.iaload, 1) := by decide +kernel
theorem dL_law_822 : decode cL_law 822 = .ok (.aload_n 0, 1) := by decide +kernel
theorem dL_law_823 : decode cL_law 823 = .ok (.iload 4, 2) := by decide +kernel
theorem dL_law_825 : decode cL_law 825 = .ok (.iconst 3, 1) := by decide +kernel
theorem dL_law_826 : decode cL_law 826 = .ok (.iadd, 1) := by decide +kernel
theorem dL_law_827 : decode cL_law 827 = .ok (.iaload, 1) := by decide +kernel
theorem dL_law_828 : decode cL_law 828 = .ok (.i2l, 1) := by decide +kernel
theorem dL_law_829 : decode cL_law 829 = .ok (.bipush 32, 2) := by decide +kernel
theorem dL_law_831 : decode cL_law 831 = .ok (.lshl, 1) := by decide +kernel
theorem dL_law_832 : decode cL_law 832 = .ok (.aload_n 0, 1) := by decide +kernel
theorem dL_law_833 : decode cL_law 833 = .ok (.iload 4, 2) := by decide +kernel
theorem dL_law_835 : decode cL_law 835 = .ok (.iconst 4, 1) := by decide +kernel
theorem dL_law_836 : decode cL_law 836 = .ok (.iadd, 1) := by decide +kernel
theorem dL_law_837 : decode cL_law 837 = .ok (.iaload, 1) := by decide +kernel
theorem dL_law_838 : decode cL_law 838 = .ok (.i2l, 1) := by decide +kernel
theorem dL_law_839 : decode cL_law 839 = .ok (.ldc2_w 148, 3) := by decide +kernel
theorem dL_law_842 : decode cL_law 842 = .ok (.land, 1) := by decide +kernel
theorem dL_law_843 : decode cL_law 843 = .ok (.lor, 1) := by decide +kernel
theorem dL_law_844 : decode cL_law 844 = .ok (.aload_n 3, 1) := by decide +kernel
theorem dL_law_845 : decode cL_law 845 = .ok (.invokestatic 150, 3) := by decide +kernel
theorem dL_law_848 : decode cL_law 848 = .ok (.istore 5, 2) := by decide +kernel
theorem dL_law_850 : decode cL_law 850 = .ok (.aload_n 2, 1) := by decide +kernel
theorem dL_law_851 : decode cL_law 851 = .ok (.aload_n 0, 1) := by decide +kernel
theorem dL_law_852 : decode cL_law 852 = .ok (.iload 4, 2) := by decide +kernel
theorem dL_law_854 : decode cL_law 854 = .ok (.iconst 1, 1) := by decide +kernel
theorem dL_law_855 : decode cL_law 855 = .ok (.iadd, 1) := by decide +kernel
theorem dL_law_856 : decode cL_law 856 = .ok (.iaload, 1) := by decide +kernel
theorem dL_law_857 : decode cL_law 857 = .ok (.aload_n 0, 1) := by decide +kernel
theorem dL_law_858 : decode cL_law 858 = .ok (.iload 4, 2) := by decide +kernel
theorem dL_law_860 : decode cL_law 860 = .ok (.iconst 2, 1) := by decide +kernel
theorem dL_law_861 : decode cL_law 861 = .ok (.iadd, 1) := by decide +kernel
theorem dL_law_862 : decode cL_law 862 = .ok (.iaload, 1) := by decide +kernel
theorem dL_law_863 : decode cL_law 863 = .ok (.aload_n 0, 1) := by decide +kernel
theorem dL_law_864 : decode cL_law 864 = .ok (.iload 4, 2) := by decide +kernel
theorem dL_law_866 : decode cL_law 866 = .ok (.iconst 3, 1) := by decide +kernel
theorem dL_law_867 : decode cL_law 867 = .ok (.iadd, 1) := by decide +kernel
theorem dL_law_868 : decode cL_law 868 = .ok (.iaload, 1) := by decide +kernel
theorem dL_law_869 : decode cL_law 869 = .ok (.i2l, 1) := by decide +kernel
theorem dL_law_870 : decode cL_law 870 = .ok (.bipush 32, 2) := by decide +kernel
theorem dL_law_872 : decode cL_law 872 = .ok (.lshl, 1) := by decide +kernel
theorem dL_law_873 : decode cL_law 873 = .ok (.aload_n 0, 1) := by decide +kernel
theorem dL_law_874 : decode cL_law 874 = .ok (.iload 4, 2) := by decide +kernel
theorem dL_law_876 : decode cL_law 876 = .ok (.iconst 4, 1) := by decide +kernel
theorem dL_law_877 : decode cL_law 877 = .ok (.iadd, 1) := by decide +kernel
theorem dL_law_878 : decode cL_law 878 = .ok (.iaload, 1) := by decide +kernel
theorem dL_law_879 : decode cL_law 879 = .ok (.i2l, 1) := by decide +kernel
theorem dL_law_880 : decode cL_law 880 = .ok (.ldc2_w 148, 3) := by decide +kernel
theorem dL_law_883 : decode cL_law 883 = .ok (.land, 1) := by decide +kernel
theorem dL_law_884 : decode cL_law 884 = .ok (.lor, 1) := by decide +kernel
theorem dL_law_885 : decode cL_law 885 = .ok (.invokevirtual 153, 3) := by decide +kernel
theorem dL_law_888 : decode cL_law 888 = .ok (.lstore 6, 2) := by decide +kernel
theorem dL_law_890 : decode cL_law 890 = .ok (.aload_n 2, 1) := by decide +kernel
theorem dL_law_891 : decode cL_law 891 = .ok (.invokevirtual 116, 3) := by decide +kernel
theorem dL_law_894 : decode cL_law 894 = .ok (.iload 5, 2) := by decide +kernel
theorem dL_law_896 : decode cL_law 896 = .ok (.if_icmp .eq 5, 3) := by decide +kernel
theorem dL_law_901 : decode cL_law 901 = .ok (.iload 5, 2) := by decide +kernel
theorem dL_law_903 : decode cL_law 903 = .ok (.ifCond .ne 14, 3) := by decide +kernel
theorem dL_law_917 : decode cL_law 917 = .ok (.goto 887, 3) := by decide +kernel
set_option maxHeartbeats 4000000 in
set_option maxRecDepth 100000 in
theorem lk_13 {p : Program} {l : Launch} {e : Env} {s : State} {m : MethodId} {below : List Frame} {meth : Method} {c : Code} {D : va_G} {kA : Nat → ClassId} {V : Nat → Nat} {b : Nat} {xs : Nat → Int32} {A : Nat → Prop} (hC : lw_C p l s m meth c b 8 xs D kA V A) (hA2 : ∀ q, A q → s.heap.size ≤ q) (h0 : Nat) (m0 : Nat) (o0 : Nat) (x0 : Nat) (x1 : Nat) (x2 : Nat) (x3 : Nat) (x4 : Nat) (x5 : Nat) (x6 : Nat) (x7 : Nat) (x8 : Nat) (x33 : Nat) (x34 : Nat) (x35 : Nat) (x36 : Nat) (x37 : Nat) (x38 : Nat) (x39 : Nat) (x40 : Nat) (x41 : Nat) (x42 : Nat) (x43 : Nat) (x44 : Nat) (y0 : List Value) (y4 : Nat) (hq : ∀ k, k < 121 → k < y0.length) (hq9 : y0[9]? = some (.int 0)) (hq19 : y0[19]? = some (.ref y4)) (hq55 : y0[55]? = some (.int 0))  {H : Heap} {locs : List Loc} {ls : Array Slot} (hl : lv_has ls 8 [(0, .ref b), (1, .ref h0), (2, .ref m0), (3, .ref o0), (4, .int 0)]) (hS : va_S A s.heap H locs) (hP : va_P D vwCl [(h0, .inr (10, [.ref x0, .int 0, .ref x1, .ref x2, .ref x3, .ref x4, .ref x5, .ref x6, .ref x7, .ref x8, .int 0, .int 3000])), (x7, .inr (5, [.ref x33, .ref x34, .ref x35, .ref x36, .ref x37, .ref x38, .ref x39, .ref x40, .ref x41, .ref x42, .ref x43, .ref x44, .int 0, .int 0, .int 0, .int (-1)])), (x37, .inl (kA 0, 5, .inl (fun _ => 0))), (m0, .inr (11, y0)), (y4, .inl (kA 0, 2, .inl (fun _ => 0)))] H) (hD : va_D A [(h0, .inr (10, [.ref x0, .int 0, .ref x1, .ref x2, .ref x3, .ref x4, .ref x5, .ref x6, .ref x7, .ref x8, .int 0, .int 3000])), (x7, .inr (5, [.ref x33, .ref x34, .ref x35, .ref x36, .ref x37, .ref x38, .ref x39, .ref x40, .ref x41, .ref x42, .ref x43, .ref x44, .int 0, .int 0, .int 0, .int (-1)])), (x37, .inl (kA 0, 5, .inl (fun _ => 0))), (m0, .inr (11, y0)), (y4, .inl (kA 0, 2, .inl (fun _ => 0)))]) : W p l e room_1 s m #[Value.ref b] below meth c H locs 514 172793 (lw_Z below #[Value.ref b] s) (F0 m 809 ls []) := by
  have ⟨hst, hx, hb, hr, hml, hown, hts, hG, hX, hbl, hbA, hlocks, hE, hK, hA⟩ := hC
  refine lv_aload_n hx hb dL_law_809 rfl (lv_at hl 1 rfl) ?_
  refine lv_aload_n hx hb dL_law_810 rfl (lv_at hl 0 rfl) ?_
  refine lv_iload hx hb dL_law_811 (lv_at hl 4 rfl) ?_
  refine lv_iconst (v := 1) hx hb dL_law_813 (by decide) ?_
  refine lv_iadd hx hb dL_law_814 ?_
  refine W.eq (g2 := F0 m 815 ls [.int 1, .ref b, .ref h0]) rfl ?_
  refine va_sld hx hb hX hbl hbA hS (show vp_in 1 8 by unfold vp_in; decide) dL_law_815 ?_
  refine W.eq (g2 := F0 m 816 ls [.int (xs 1), .ref h0]) rfl ?_
  refine lv_aload_n hx hb dL_law_816 rfl (lv_at hl 0 rfl) ?_
  refine lv_iload hx hb dL_law_817 (lv_at hl 4 rfl) ?_
  refine lv_iconst (v := 2) hx hb dL_law_819 (by decide) ?_
  refine lv_iadd hx hb dL_law_820 ?_
  refine W.eq (g2 := F0 m 821 ls [.int 2, .ref b, .int (xs 1), .ref h0]) rfl ?_
  refine va_sld hx hb hX hbl hbA hS (show vp_in 2 8 by unfold vp_in; decide) dL_law_821 ?_
  refine W.eq (g2 := F0 m 822 ls [.int (xs 2), .int (xs 1), .ref h0]) rfl ?_
  refine lv_aload_n hx hb dL_law_822 rfl (lv_at hl 0 rfl) ?_
  refine lv_iload hx hb dL_law_823 (lv_at hl 4 rfl) ?_
  refine lv_iconst (v := 3) hx hb dL_law_825 (by decide) ?_
  refine lv_iadd hx hb dL_law_826 ?_
  refine W.eq (g2 := F0 m 827 ls [.int 3, .ref b, .int (xs 2), .int (xs 1), .ref h0]) rfl ?_
  refine va_sld hx hb hX hbl hbA hS (show vp_in 3 8 by unfold vp_in; decide) dL_law_827 ?_
  refine W.eq (g2 := F0 m 828 ls [.int (xs 3), .int (xs 2), .int (xs 1), .ref h0]) rfl ?_
  refine lv_i2l (v := (xs 3).toInt64) hx hb dL_law_828 rfl ?_
  refine lv_bipush (v := 32) hx hb dL_law_829 (by decide) ?_
  refine lv_lshl (v := ((xs 3).toInt64) <<< ((32 : Int32).toInt64 &&& 63)) hx hb dL_law_831 rfl ?_
  refine lv_aload_n hx hb dL_law_832 rfl (lv_at hl 0 rfl) ?_
  refine lv_iload hx hb dL_law_833 (lv_at hl 4 rfl) ?_
  refine lv_iconst (v := 4) hx hb dL_law_835 (by decide) ?_
  refine lv_iadd hx hb dL_law_836 ?_
  refine W.eq (g2 := F0 m 837 ls [.int 4, .ref b, .long (((xs 3).toInt64) <<< ((32 : Int32).toInt64 &&& 63)), .int (xs 2), .int (xs 1), .ref h0]) rfl ?_
  refine va_sld hx hb hX hbl hbA hS (show vp_in 4 8 by unfold vp_in; decide) dL_law_837 ?_
  refine W.eq (g2 := F0 m 838 ls [.int (xs 4), .long (((xs 3).toInt64) <<< ((32 : Int32).toInt64 &&& 63)), .int (xs 2), .int (xs 1), .ref h0]) rfl ?_
  refine lv_i2l (v := (xs 4).toInt64) hx hb dL_law_838 rfl ?_
  refine lv_ldc2 (v := 4294967295) hx hb hown (hG _ gw_2764) dL_law_839 ?_
  refine lv_land hx hb dL_law_842 ?_
  refine lv_lor hx hb dL_law_843 ?_
  refine lv_aload_n hx hb dL_law_844 rfl (lv_at hl 3 rfl) ?_
  have hPc := hP.sub (ws' := [(h0, .inr (10, [.ref x0, .int 0, .ref x1, .ref x2, .ref x3, .ref x4, .ref x5, .ref x6, .ref x7, .ref x8, .int 0, .int 3000])), (x7, .inr (5, [.ref x33, .ref x34, .ref x35, .ref x36, .ref x37, .ref x38, .ref x39, .ref x40, .ref x41, .ref x42, .ref x43, .ref x44, .int 0, .int 0, .int 0, .int (-1)])), (x37, .inl (kA 0, 5, .inl (fun _ => 0)))]) [0, 1, 2] rfl
  have hDc := hD.sub (ws' := [(h0, .inr (10, [.ref x0, .int 0, .ref x1, .ref x2, .ref x3, .ref x4, .ref x5, .ref x6, .ref x7, .ref x8, .int 0, .int 3000])), (x7, .inr (5, [.ref x33, .ref x34, .ref x35, .ref x36, .ref x37, .ref x38, .ref x39, .ref x40, .ref x41, .ref x42, .ref x43, .ref x44, .int 0, .int 0, .int 0, .int (-1)])), (x37, .inl (kA 0, 5, .inl (fun _ => 0)))]) [0, 1, 2] (by decide) rfl
  have hFc := va_free (wc := [(h0, .inr (10, [.ref x0, .int 0, .ref x1, .ref x2, .ref x3, .ref x4, .ref x5, .ref x6, .ref x7, .ref x8, .int 0, .int 3000])), (x7, .inr (5, [.ref x33, .ref x34, .ref x35, .ref x36, .ref x37, .ref x38, .ref x39, .ref x40, .ref x41, .ref x42, .ref x43, .ref x44, .int 0, .int 0, .int 0, .int (-1)])), (x37, .inl (kA 0, 5, .inl (fun _ => 0)))]) hD hS hA [0, 1, 2] rfl
  refine va_calli (vx_runSW (As := [.ref h0, .int (xs 1), .int (xs 2), .long ((((xs 3).toInt64) <<< ((32 : Int32).toInt64 &&& 63)) ||| (((xs 4).toInt64) &&& 4294967295)), .ref o0]) (rest := []) ⟨hx, hb, hml, hown, hts⟩ (a164_L_poke l hst D kA V H.size h0 (xs 1) (xs 2) ((((xs 3).toInt64) <<< ((32 : Int32).toInt64 &&& 63)) ||| (((xs 4).toInt64) &&& 4294967295)) o0 x0 x1 x2 x3 x4 x5 x6 x7 x8 x33 x34 x35 x36 x37 x38 x39 x40 x41 x42 x43 x44) (vx_cwSW 5 hts (gw_SW gw_1720 gw_1721 gw_0 gw_1722) rfl rfl rfl (by decide +kernel) ⟨(Nat.le_of_ble_eq_true rfl), (Nat.le_of_ble_eq_true rfl)⟩) ⟨aP.blind, aP.pre hE hS hPc hK hDc hFc⟩ rfl rfl hl.1 rfl (lv_room (Nat.le_of_ble_eq_true rfl)) dL_law_845 ⟨(Nat.le_of_ble_eq_true rfl), (Nat.le_of_ble_eq_true rfl)⟩) hS (fun q _ h => hFc q h) hFc (fun r_1 u t H1 locs ht hvm hw hB hz1 hk1 hS => ?_)
  obtain ⟨hP1, hD1⟩ := hB
  rw [ht] at hP1
  try dsimp only at hw hP1 hD1
  rcases hw with ⟨c_2, w_3⟩ | ⟨c_4, c_5, w_6⟩
  · skip
    subst w_3
    obtain ⟨hP, hD⟩ := va_join (wr := [(m0, .inr (11, y0)), (y4, .inl (kA 0, 2, .inl (fun _ => 0)))]) (w1 := []) hP hD [0, 1, 2] [3, 4] rfl rfl (by decide) (by decide) hk1 hFc hP1 hD1
    generalize H1 = H at hP hS ⊢
    have hP : va_P D vwCl [(m0, .inr (11, y0)), (y4, .inl (kA 0, 2, .inl (fun _ => 0)))] H := hP
    have hD : va_D A [(m0, .inr (11, y0)), (y4, .inl (kA 0, 2, .inl (fun _ => 0)))] := hD
    refine lv_istore (lv' := [(5, .int 1), (0, .ref b), (1, .ref h0), (2, .ref m0), (3, .ref o0), (4, .int 0)]) hx hb dL_law_848 hl (by decide) rfl (fun ls hl => ?_)
    refine lv_aload_n hx hb dL_law_850 rfl (lv_at hl 3 rfl) ?_
    refine lv_aload_n hx hb dL_law_851 rfl (lv_at hl 1 rfl) ?_
    refine lv_iload hx hb dL_law_852 (lv_at hl 5 rfl) ?_
    refine lv_iconst (v := 1) hx hb dL_law_854 (by decide) ?_
    refine lv_iadd hx hb dL_law_855 ?_
    refine W.eq (g2 := F0 m 856 ls [.int 1, .ref b, .ref m0]) rfl ?_
    refine va_sld hx hb hX hbl hbA hS (show vp_in 1 8 by unfold vp_in; decide) dL_law_856 ?_
    refine W.eq (g2 := F0 m 857 ls [.int (xs 1), .ref m0]) rfl ?_
    refine lv_aload_n hx hb dL_law_857 rfl (lv_at hl 1 rfl) ?_
    refine lv_iload hx hb dL_law_858 (lv_at hl 5 rfl) ?_
    refine lv_iconst (v := 2) hx hb dL_law_860 (by decide) ?_
    refine lv_iadd hx hb dL_law_861 ?_
    refine W.eq (g2 := F0 m 862 ls [.int 2, .ref b, .int (xs 1), .ref m0]) rfl ?_
    refine va_sld hx hb hX hbl hbA hS (show vp_in 2 8 by unfold vp_in; decide) dL_law_862 ?_
    refine W.eq (g2 := F0 m 863 ls [.int (xs 2), .int (xs 1), .ref m0]) rfl ?_
    refine lv_aload_n hx hb dL_law_863 rfl (lv_at hl 1 rfl) ?_
    refine lv_iload hx hb dL_law_864 (lv_at hl 5 rfl) ?_
    refine lv_iconst (v := 3) hx hb dL_law_866 (by decide) ?_
    refine lv_iadd hx hb dL_law_867 ?_
    refine W.eq (g2 := F0 m 868 ls [.int 3, .ref b, .int (xs 2), .int (xs 1), .ref m0]) rfl ?_
    refine va_sld hx hb hX hbl hbA hS (show vp_in 3 8 by unfold vp_in; decide) dL_law_868 ?_
    refine W.eq (g2 := F0 m 869 ls [.int (xs 3), .int (xs 2), .int (xs 1), .ref m0]) rfl ?_
    refine lv_i2l (v := (xs 3).toInt64) hx hb dL_law_869 rfl ?_
    refine lv_bipush (v := 32) hx hb dL_law_870 (by decide) ?_
    refine lv_lshl (v := ((xs 3).toInt64) <<< ((32 : Int32).toInt64 &&& 63)) hx hb dL_law_872 rfl ?_
    refine lv_aload_n hx hb dL_law_873 rfl (lv_at hl 1 rfl) ?_
    refine lv_iload hx hb dL_law_874 (lv_at hl 5 rfl) ?_
    refine lv_iconst (v := 4) hx hb dL_law_876 (by decide) ?_
    refine lv_iadd hx hb dL_law_877 ?_
    refine W.eq (g2 := F0 m 878 ls [.int 4, .ref b, .long (((xs 3).toInt64) <<< ((32 : Int32).toInt64 &&& 63)), .int (xs 2), .int (xs 1), .ref m0]) rfl ?_
    refine va_sld hx hb hX hbl hbA hS (show vp_in 4 8 by unfold vp_in; decide) dL_law_878 ?_
    refine W.eq (g2 := F0 m 879 ls [.int (xs 4), .long (((xs 3).toInt64) <<< ((32 : Int32).toInt64 &&& 63)), .int (xs 2), .int (xs 1), .ref m0]) rfl ?_
    refine lv_i2l (v := (xs 4).toInt64) hx hb dL_law_879 rfl ?_
    refine lv_ldc2 (v := 4294967295) hx hb hown (hG _ gw_2764) dL_law_880 ?_
    refine lv_land hx hb dL_law_883 ?_
    refine lv_lor hx hb dL_law_884 ?_
    have hPc := hP.sub (ws' := [(m0, .inr (11, y0)), (y4, .inl (kA 0, 2, .inl (fun _ => 0)))]) [0, 1] rfl
    have hDc := hD.sub (ws' := [(m0, .inr (11, y0)), (y4, .inl (kA 0, 2, .inl (fun _ => 0)))]) [0, 1] (by decide) rfl
    have hFc := va_free (wc := [(m0, .inr (11, y0)), (y4, .inl (kA 0, 2, .inl (fun _ => 0)))]) hD hS hA [0, 1] rfl
    refine va_calll (va_runV (As := [.int (xs 1), .int (xs 2), .long ((((xs 3).toInt64) <<< ((32 : Int32).toInt64 &&& 63)) ||| (((xs 4).toInt64) &&& 4294967295))]) (rest := []) ⟨hx, hb, hml, hown, hts⟩ (a139_X12_poke l  D kA V H.size m0 (xs 1) (xs 2) ((((xs 3).toInt64) <<< ((32 : Int32).toInt64 &&& 63)) ||| (((xs 4).toInt64) &&& 4294967295)) y4 y0 (fun k hk => (hq k hk)) hq9 hq19 hq55) (cwV 3 hts (gw_V gw_2716 gw_2717 gw_2718 gw_16 gw_2719) rfl rfl rfl (by decide +kernel) ⟨(Nat.le_of_ble_eq_true rfl), (Nat.le_of_ble_eq_true rfl)⟩) ⟨aP.blind, va_recv hK hP (ci := 11) (q0 := 0) rfl rfl, aP.pre hE hS hPc hK hDc hFc⟩ rfl rfl hl.1 rfl (lv_room (Nat.le_of_ble_eq_true rfl)) dL_law_885 ⟨(Nat.le_of_ble_eq_true rfl), (Nat.le_of_ble_eq_true rfl)⟩) hS (fun q _ h => hFc q h) hFc (fun r_7 u t H1 locs ht hvm hw hB hz1 hk1 hS => ?_)
    obtain ⟨u_8, rfl⟩ : ∃ z, z = u := ⟨u, rfl⟩
    obtain ⟨hP1, hD1⟩ := hB
    rw [ht] at hP1
    try dsimp only at hw hP1 hD1
    rcases hw with ⟨c_9, w_10, w_11⟩ | ⟨c_12, c_13, w_14, w_15⟩
    · skip
      subst w_10
      subst w_11
      obtain ⟨hP, hD⟩ := va_join (wr := []) (w1 := [(m0, .inr (11, y0.set 9 (.int 1))), (y4, .inl (kA 0, 2, .inl (fun _ => 0)))]) hP hD [0, 1] [] rfl rfl (by decide) (by decide) hk1 hFc hP1 hD1
      generalize H1 = H at hP hS ⊢
      have hP : va_P D vwCl [(m0, .inr (11, y0.set 9 (.int 1))), (y4, .inl (kA 0, 2, .inl (fun _ => 0)))] H := hP
      have hD : va_D A [(m0, .inr (11, y0.set 9 (.int 1))), (y4, .inl (kA 0, 2, .inl (fun _ => 0)))] := hD
      refine lv_lstore (lv' := [(6, .long 0), (5, .int 1), (0, .ref b), (1, .ref h0), (2, .ref m0), (3, .ref o0), (4, .int 0)]) hx hb dL_law_888 hl (by decide) rfl (fun ls hl => ?_)
      refine lv_aload_n hx hb dL_law_890 rfl (lv_at hl 4 rfl) ?_
      have hPc := hP.sub (ws' := [(m0, .inr (11, y0.set 9 (.int 1)))]) [0] rfl
      have hDc := hD.sub (ws' := [(m0, .inr (11, y0.set 9 (.int 1)))]) [0] (by decide) rfl
      have hFc := va_free (wc := [(m0, .inr (11, y0.set 9 (.int 1)))]) hD hS hA [0] rfl
      refine va_calli (va_runV (As := []) (rest := []) ⟨hx, hb, hml, hown, hts⟩ (a174_X12_thrown l  D kA V H.size m0 (y0.set 9 (.int 1)) (fun k hk => (by rw [List.length_set]; exact (hq k hk))) (List.getElem?_set_self (hq 9 (by decide)))) (cwV 0 hts (gw_V gw_1879 gw_1880 gw_1881 gw_16 gw_1882) rfl rfl rfl (by decide +kernel) ⟨(Nat.le_of_ble_eq_true rfl), (Nat.le_of_ble_eq_true rfl)⟩) ⟨aP.blind, va_recv hK hP (ci := 11) (q0 := 0) rfl rfl, aP.pre hE hS hPc hK hDc hFc⟩ rfl rfl hl.1 rfl (lv_room (Nat.le_of_ble_eq_true rfl)) dL_law_891 ⟨(Nat.le_of_ble_eq_true rfl), (Nat.le_of_ble_eq_true rfl)⟩) hS (fun q _ h => hFc q h) hFc (fun r_16 u t H1 locs ht hvm hw hB hz1 hk1 hS => ?_)
      obtain ⟨hP1, hD1⟩ := hB
      rw [ht] at hP1
      try dsimp only at hw hP1 hD1
      have w_17 := hw
      subst w_17
      obtain ⟨hP, hD⟩ := va_join (wr := [(y4, .inl (kA 0, 2, .inl (fun _ => 0)))]) (w1 := [(m0, .inr (11, (y0.set 9 (.int 1))))]) hP hD [0] [1] rfl rfl (by decide) (by decide) hk1 hFc hP1 hD1
      generalize H1 = H at hP hS ⊢
      have hP : va_P D vwCl [(y4, .inl (kA 0, 2, .inl (fun _ => 0))), (m0, .inr (11, (y0.set 9 (.int 1))))] H := hP
      have hD : va_D A [(y4, .inl (kA 0, 2, .inl (fun _ => 0))), (m0, .inr (11, (y0.set 9 (.int 1))))] := hD
      refine lv_iload hx hb dL_law_894 (lv_at hl 1 rfl) ?_
      refine lv_icmp_eq (tgt := 901) hx hb dL_law_896 (by decide) (fun c_18 => ?_) (fun c_18 => ?_)
      · skip
        refine lv_iload hx hb dL_law_901 (lv_at hl 1 rfl) ?_
        refine lv_if_ne (tgt := 917) hx hb dL_law_903 (by decide) (fun c_19 => ?_) (fun c_19 => ?_)
        · skip
          refine lv_goto (tgt := 1804) hx hb dL_law_917 (by decide) ?_
          exact lk_tail hC hA2 (lv_sub hl [2, 6] rfl) hS (Nat.le_of_ble_eq_true rfl) (Nat.le_of_ble_eq_true rfl)
        · exact absurd c_19 (by decide)
      · exact absurd (by decide) c_18
    · skip
      subst w_14
      subst w_15
      exact absurd c_2 c_12
  · skip
    subst w_6
    obtain ⟨hP, hD⟩ := va_join (wr := [(m0, .inr (11, y0)), (y4, .inl (kA 0, 2, .inl (fun _ => 0)))]) (w1 := []) hP hD [0, 1, 2] [3, 4] rfl rfl (by decide) (by decide) hk1 hFc hP1 hD1
    generalize H1 = H at hP hS ⊢
    have hP : va_P D vwCl [(m0, .inr (11, y0)), (y4, .inl (kA 0, 2, .inl (fun _ => 0)))] H := hP
    have hD : va_D A [(m0, .inr (11, y0)), (y4, .inl (kA 0, 2, .inl (fun _ => 0)))] := hD
    refine lv_istore (lv' := [(5, .int 1), (0, .ref b), (1, .ref h0), (2, .ref m0), (3, .ref o0), (4, .int 0)]) hx hb dL_law_848 hl (by decide) rfl (fun ls hl => ?_)
    refine lv_aload_n hx hb dL_law_850 rfl (lv_at hl 3 rfl) ?_
    refine lv_aload_n hx hb dL_law_851 rfl (lv_at hl 1 rfl) ?_
    refine lv_iload hx hb dL_law_852 (lv_at hl 5 rfl) ?_
    refine lv_iconst (v := 1) hx hb dL_law_854 (by decide) ?_
    refine lv_iadd hx hb dL_law_855 ?_
    refine W.eq (g2 := F0 m 856 ls [.int 1, .ref b, .ref m0]) rfl ?_
    refine va_sld hx hb hX hbl hbA hS (show vp_in 1 8 by unfold vp_in; decide) dL_law_856 ?_
    refine W.eq (g2 := F0 m 857 ls [.int (xs 1), .ref m0]) rfl ?_
    refine lv_aload_n hx hb dL_law_857 rfl (lv_at hl 1 rfl) ?_
    refine lv_iload hx hb dL_law_858 (lv_at hl 5 rfl) ?_
    refine lv_iconst (v := 2) hx hb dL_law_860 (by decide) ?_
    refine lv_iadd hx hb dL_law_861 ?_
    refine W.eq (g2 := F0 m 862 ls [.int 2, .ref b, .int (xs 1), .ref m0]) rfl ?_
    refine va_sld hx hb hX hbl hbA hS (show vp_in 2 8 by unfold vp_in; decide) dL_law_862 ?_
    refine W.eq (g2 := F0 m 863 ls [.int (xs 2), .int (xs 1), .ref m0]) rfl ?_
    refine lv_aload_n hx hb dL_law_863 rfl (lv_at hl 1 rfl) ?_
    refine lv_iload hx hb dL_law_864 (lv_at hl 5 rfl) ?_
    refine lv_iconst (v := 3) hx hb dL_law_866 (by decide) ?_
    refine lv_iadd hx hb dL_law_867 ?_
    refine W.eq (g2 := F0 m 868 ls [.int 3, .ref b, .int (xs 2), .int (xs 1), .ref m0]) rfl ?_
    refine va_sld hx hb hX hbl hbA hS (show vp_in 3 8 by unfold vp_in; decide) dL_law_868 ?_
    refine W.eq (g2 := F0 m 869 ls [.int (xs 3), .int (xs 2), .int (xs 1), .ref m0]) rfl ?_
    refine lv_i2l (v := (xs 3).toInt64) hx hb dL_law_869 rfl ?_
    refine lv_bipush (v := 32) hx hb dL_law_870 (by decide) ?_
    refine lv_lshl (v := ((xs 3).toInt64) <<< ((32 : Int32).toInt64 &&& 63)) hx hb dL_law_872 rfl ?_
    refine lv_aload_n hx hb dL_law_873 rfl (lv_at hl 1 rfl) ?_
    refine lv_iload hx hb dL_law_874 (lv_at hl 5 rfl) ?_
    refine lv_iconst (v := 4) hx hb dL_law_876 (by decide) ?_
    refine lv_iadd hx hb dL_law_877 ?_
    refine W.eq (g2 := F0 m 878 ls [.int 4, .ref b, .long (((xs 3).toInt64) <<< ((32 : Int32).toInt64 &&& 63)), .int (xs 2), .int (xs 1), .ref m0]) rfl ?_
    refine va_sld hx hb hX hbl hbA hS (show vp_in 4 8 by unfold vp_in; decide) dL_law_878 ?_
    refine W.eq (g2 := F0 m 879 ls [.int (xs 4), .long (((xs 3).toInt64) <<< ((32 : Int32).toInt64 &&& 63)), .int (xs 2), .int (xs 1), .ref m0]) rfl ?_
    refine lv_i2l (v := (xs 4).toInt64) hx hb dL_law_879 rfl ?_
    refine lv_ldc2 (v := 4294967295) hx hb hown (hG _ gw_2764) dL_law_880 ?_
    refine lv_land hx hb dL_law_883 ?_
    refine lv_lor hx hb dL_law_884 ?_
    have hPc := hP.sub (ws' := [(m0, .inr (11, y0)), (y4, .inl (kA 0, 2, .inl (fun _ => 0)))]) [0, 1] rfl
    have hDc := hD.sub (ws' := [(m0, .inr (11, y0)), (y4, .inl (kA 0, 2, .inl (fun _ => 0)))]) [0, 1] (by decide) rfl
    have hFc := va_free (wc := [(m0, .inr (11, y0)), (y4, .inl (kA 0, 2, .inl (fun _ => 0)))]) hD hS hA [0, 1] rfl
    refine va_calll (va_runV (As := [.int (xs 1), .int (xs 2), .long ((((xs 3).toInt64) <<< ((32 : Int32).toInt64 &&& 63)) ||| (((xs 4).toInt64) &&& 4294967295))]) (rest := []) ⟨hx, hb, hml, hown, hts⟩ (a139_X12_poke l  D kA V H.size m0 (xs 1) (xs 2) ((((xs 3).toInt64) <<< ((32 : Int32).toInt64 &&& 63)) ||| (((xs 4).toInt64) &&& 4294967295)) y4 y0 (fun k hk => (hq k hk)) hq9 hq19 hq55) (cwV 3 hts (gw_V gw_2716 gw_2717 gw_2718 gw_16 gw_2719) rfl rfl rfl (by decide +kernel) ⟨(Nat.le_of_ble_eq_true rfl), (Nat.le_of_ble_eq_true rfl)⟩) ⟨aP.blind, va_recv hK hP (ci := 11) (q0 := 0) rfl rfl, aP.pre hE hS hPc hK hDc hFc⟩ rfl rfl hl.1 rfl (lv_room (Nat.le_of_ble_eq_true rfl)) dL_law_885 ⟨(Nat.le_of_ble_eq_true rfl), (Nat.le_of_ble_eq_true rfl)⟩) hS (fun q _ h => hFc q h) hFc (fun r_20 u t H1 locs ht hvm hw hB hz1 hk1 hS => ?_)
    obtain ⟨u_21, rfl⟩ : ∃ z, z = u := ⟨u, rfl⟩
    obtain ⟨hP1, hD1⟩ := hB
    rw [ht] at hP1
    try dsimp only at hw hP1 hD1
    rcases hw with ⟨c_22, w_23, w_24⟩ | ⟨c_25, c_26, w_27, w_28⟩
    · skip
      subst w_23
      subst w_24
      exact absurd c_22 c_4
    · skip
      subst w_27
      subst w_28
      obtain ⟨hP, hD⟩ := va_join (wr := []) (w1 := [(m0, .inr (11, y0.set 9 (.int 1))), (y4, .inl (kA 0, 2, .inl (fun _ => 0)))]) hP hD [0, 1] [] rfl rfl (by decide) (by decide) hk1 hFc hP1 hD1
      generalize H1 = H at hP hS ⊢
      have hP : va_P D vwCl [(m0, .inr (11, y0.set 9 (.int 1))), (y4, .inl (kA 0, 2, .inl (fun _ => 0)))] H := hP
      have hD : va_D A [(m0, .inr (11, y0.set 9 (.int 1))), (y4, .inl (kA 0, 2, .inl (fun _ => 0)))] := hD
      refine lv_lstore (lv' := [(6, .long 0), (5, .int 1), (0, .ref b), (1, .ref h0), (2, .ref m0), (3, .ref o0), (4, .int 0)]) hx hb dL_law_888 hl (by decide) rfl (fun ls hl => ?_)
      refine lv_aload_n hx hb dL_law_890 rfl (lv_at hl 4 rfl) ?_
      have hPc := hP.sub (ws' := [(m0, .inr (11, y0.set 9 (.int 1)))]) [0] rfl
      have hDc := hD.sub (ws' := [(m0, .inr (11, y0.set 9 (.int 1)))]) [0] (by decide) rfl
      have hFc := va_free (wc := [(m0, .inr (11, y0.set 9 (.int 1)))]) hD hS hA [0] rfl
      refine va_calli (va_runV (As := []) (rest := []) ⟨hx, hb, hml, hown, hts⟩ (a174_X12_thrown l  D kA V H.size m0 (y0.set 9 (.int 1)) (fun k hk => (by rw [List.length_set]; exact (hq k hk))) (List.getElem?_set_self (hq 9 (by decide)))) (cwV 0 hts (gw_V gw_1879 gw_1880 gw_1881 gw_16 gw_1882) rfl rfl rfl (by decide +kernel) ⟨(Nat.le_of_ble_eq_true rfl), (Nat.le_of_ble_eq_true rfl)⟩) ⟨aP.blind, va_recv hK hP (ci := 11) (q0 := 0) rfl rfl, aP.pre hE hS hPc hK hDc hFc⟩ rfl rfl hl.1 rfl (lv_room (Nat.le_of_ble_eq_true rfl)) dL_law_891 ⟨(Nat.le_of_ble_eq_true rfl), (Nat.le_of_ble_eq_true rfl)⟩) hS (fun q _ h => hFc q h) hFc (fun r_29 u t H1 locs ht hvm hw hB hz1 hk1 hS => ?_)
      obtain ⟨hP1, hD1⟩ := hB
      rw [ht] at hP1
      try dsimp only at hw hP1 hD1
      have w_30 := hw
      subst w_30
      obtain ⟨hP, hD⟩ := va_join (wr := [(y4, .inl (kA 0, 2, .inl (fun _ => 0)))]) (w1 := [(m0, .inr (11, (y0.set 9 (.int 1))))]) hP hD [0] [1] rfl rfl (by decide) (by decide) hk1 hFc hP1 hD1
      generalize H1 = H at hP hS ⊢
      have hP : va_P D vwCl [(y4, .inl (kA 0, 2, .inl (fun _ => 0))), (m0, .inr (11, (y0.set 9 (.int 1))))] H := hP
      have hD : va_D A [(y4, .inl (kA 0, 2, .inl (fun _ => 0))), (m0, .inr (11, (y0.set 9 (.int 1))))] := hD
      refine lv_iload hx hb dL_law_894 (lv_at hl 1 rfl) ?_
      refine lv_icmp_eq (tgt := 901) hx hb dL_law_896 (by decide) (fun c_31 => ?_) (fun c_31 => ?_)
      · skip
        refine lv_iload hx hb dL_law_901 (lv_at hl 1 rfl) ?_
        refine lv_if_ne (tgt := 917) hx hb dL_law_903 (by decide) (fun c_32 => ?_) (fun c_32 => ?_)
        · skip
          refine lv_goto (tgt := 1804) hx hb dL_law_917 (by decide) ?_
          exact lk_tail hC hA2 (lv_sub hl [2, 6] rfl) hS (Nat.le_of_ble_eq_true rfl) (Nat.le_of_ble_eq_true rfl)
        · exact absurd c_32 (by decide)
      · exact absurd (by decide) c_31
