/-! The first statement of a body: it begins with the taking of time. -/
/-- as a statement; and told apart behind its first instruction -/
def FSTq (u w : RSt) (T : Nat) (o : Int) (g : Nat) : Prop := STq u w T o 0 g ∧ (w.1 67 = 0 → kP u < kP w) ∧ (act w → ∃ x, CSq u x T o 1 525 [] [] true ∧ SM u x ∧ ∃ e, STq x w T o e g)
section RFirst
variable {u0 u v w : RSt} {T N g g' g2 : Nat} {o o' e e' : Int} {ro : Nat → Int32 → Int32 → RSt → Option (Int32 × RSt)}
theorem e_first (hN : 5000000000 ≤ N) (hp : PRE u T) (hs : SLK 1 u) (hf : u.1 67 = 0) (ho1 : opn u = o) (h0 : 0 ≤ o) (h24 : o ≤ 24) (hd : ENVq u (o - 1)) (hK : ∀ q, q = 2 ∨ q = 3 ∨ q = 4 ∨ q = 5 → HKr ro T q o g) (hg : 525 ≤ g) : wp (F_stat N ro u) (fun _ w => FSTq u w T o g) := by
  have ho : u.1 67 = 0 → opn u = o ∧ 0 ≤ o ∧ o ≤ 24 := fun _ => ⟨ho1, h0, h24⟩
  have c0 : CSq u u T o 0 525 [] [] false := CSq.rf hp ho
  unfold F_stat B_stat_0
  refine wp_rd.mpr ⟨hp.1.vin, wp_rd.mpr ⟨hp.1.vin, ?_⟩⟩
  generalize u.2.2.1 3 (u.1 65).toNatClampNeg = l1
  have hty : u.2.2.1 2 (u.1 65).toNatClampNeg = tyR u := rfl
  rw [hty]
  have e65 : wp (B_stat_65 N ro l1 (tyR u) u) (fun _ w => FSTq u w T o g) := by
    unfold B_stat_65 B_stat_66
    rw [if_pos rfl, wp_bn]
    refine wp_mono (x_stuck hp.1) (fun _ w hw => wp_some.mpr ⟨?_, fun z => absurd z hw.1, fun ha => absurd ha.2 hw.1⟩)
    have : CSq u w T o 0 g [] [] false := CSq.flt hw hp
    exact STq.of this
  have e61 : ¬ isT (tyR u) → wp (B_stat_61 N ro l1 (tyR u) u) (fun _ w => FSTq u w T o g) := by
    intro ht
    unfold B_stat_61 B_stat_66
    rw [if_neg (by decide)]
    refine c_cost0 hp c0 (by omega) (by simp) rfl (fun _ x cx sx => ?_)
    have hpx : PRE x T := cx.vv.pre2 hs hp (by omega)
    have hox : x.1 67 = 0 → opn x = o ∧ 0 ≤ o ∧ o ≤ 24 := fun z => cx.ho z
    have tx : tyR x = tyR u := sx.t
    have kx : kP x = kP u := sx.k
    have stx := STq.of cx
    refine wp_if.mpr ⟨fun q => ?_, fun q => wp_pu.mpr ?_⟩
    · rw [wp_bn]
      refine wp_mono (x_isNext hpx.1) (fun r x' hr => ?_)
      obtain ⟨rfl, -⟩ := hr
      have fin : ∀ w, CSd x' w T o (-1) 525 → FSTq u w T o g := by
        intro w hw
        refine ⟨(stx.tr (STq.of hw.1) (g' := g) hg hg).we (fun _ => by omega) (Nat.le_refl _), fun z => ?_, fun _ => ⟨x', cx, sx, _, (STq.of hw.1).we (fun _ => Int.le_refl _) hg⟩⟩
        have := hw.2 z
        omega
      refine wp_if.mpr ⟨fun _ => ?_, fun _ => ?_⟩
      · rw [wp_bn]
        exact wp_mono (e_sets hN hpx hox h0 h24 (by rw [tx]; exact ht)) (fun _ w hw => wp_some.mpr (fin w hw))
      · rw [wp_bn]
        exact wp_mono (e_runs hN hpx hox h0 h24 (by rw [tx]; exact ht)) (fun _ w hw => wp_some.mpr (fin w hw))
    · obtain ⟨cy, ky, ly⟩ := cx.ff.on hp (by rw [tx]; exact ht)
      obtain ⟨cxy, -, -⟩ := (CSq.rf (g := 525) (α := []) (o := o) hpx hox).on hpx (by rw [tx]; exact ht)
      generalize sI x 65 (x.1 65 + 1) = y at cy cxy ky ly ⊢
      have cy : CSq u y T o (-4) 525 [] [] false := cy.we (by omega) (Nat.le_refl _)
      have hpy : PRE y T := cy.pre hp (by omega)
      have hoy : y.1 67 = 0 → opn y = o ∧ 0 ≤ o ∧ o ≤ 24 := fun z => cy.ho z
      have hdy : ENVq y (o - 1) := hd.on cy.1 cy.2.1.1 (Int.le_refl _)
      have hsy : SLK 5 y := cy.vv.slk hs hp (by omega)
      have sty := STq.of cy
      have fin : ∀ w, STq y w T o 4 g → FSTq u w T o g := by
        intro w hw
        refine ⟨(sty.tr hw (g' := g) hg (Nat.le_refl _)).we (fun _ => by omega) (Nat.le_refl _), fun z => ?_, fun _ => ⟨x, cx, sx, _, (STq.of cxy).tr hw (g' := g) hg (Nat.le_refl _)⟩⟩
        have := hw.vv.2.1
        omega
      have fin0 : ∀ {w}, STq y w T o 0 525 → FSTq u w T o g := fun {w} hw => fin w (hw.we (fun _ => by omega) hg)
      have k_ : ∀ (q : Nat) (a : Int32), (q = 2 ∨ q = 3 ∨ q = 4 ∨ q = 5) → wp (bn (ro q a 0 y) fun _ w => some ((0 : Int32), w)) (fun _ w => FSTq u w T o g) := by
        intro q a hq
        rw [wp_bn]
        exact wp_mono (hK q hq a y hpy hsy hoy hdy) (fun _ w hw => wp_some.mpr (fin w hw))
      have lv : ∀ a b : Int32, wp (bn (F_leaves N a b y) fun _ w => some ((0 : Int32), w)) (fun _ w => FSTq u w T o g) := by
        intro a b
        rw [wp_bn]
        exact wp_mono (e_leaves hpy hoy hdy (by omega)) (fun _ w hw => wp_some.mpr (fin0 hw))
      refine wp_if.mpr ⟨fun _ => k_ 2 _ (by simp), fun _ => wp_if.mpr ⟨fun _ => k_ 3 _ (by simp), fun _ => wp_if.mpr ⟨fun _ => k_ 4 _ (by simp), fun _ => wp_if.mpr ⟨fun _ => k_ 5 _ (by simp), fun _ => wp_if.mpr ⟨fun _ => lv _ _, fun _ => wp_if.mpr ⟨fun _ => lv _ _, fun _ => wp_if.mpr ⟨fun _ => ?_, fun _ => ?_⟩⟩⟩⟩⟩⟩⟩
      · rw [wp_bn]
        exact wp_mono (e_returns hN hpy hoy h0 (by omega) hdy.2.2) (fun _ w hw => wp_some.mpr (fin0 (STq.of hw)))
      · have cyy : CSq y y T o 0 525 [] [] false := CSq.rf hpy hoy
        refine c_exp hN h0 (by omega) hpy cyy (by omega) (Nat.le_refl _) (by simp) (fun r z cz ef kz => ?_)
        refine c_emit (γ := []) hpy cz (by omega) (Nat.le_refl _) (fun w ha qm b1 b2 => ?_) (fun r z2 cz2 _ _ _ => ?_)
        · exact (gn_stop (t := nT) qm (cz.tl hpy) b1 b2 rfl).ext (g1 := 525) (c1 := 1) [] (by simp) (Nat.le_refl _)
        · exact wp_mono (c_semi (e' := 0) hpy cz2 (by omega)) (fun _ w hw => fin0 (STq.of hw.1))
  have n116 : ∀ k : Int32, ¬ k < 116 → ¬ isT k := by
    intro k hk z
    rcases z with z | z | z <;> (rw [z] at hk; exact hk (by decide))
  refine wp_if.mpr ⟨fun q => e61 (by rw [q]; unfold isT; decide), fun _ => wp_if.mpr ⟨fun _ => e65, fun q => wp_if.mpr ⟨fun _ => e65, fun _ => wp_if.mpr ⟨fun _ => e65, fun _ => wp_if.mpr ⟨fun _ => e65, fun _ => wp_if.mpr ⟨fun _ => e65, fun _ => wp_if.mpr ⟨fun _ => e65, fun _ => e61 (n116 _ q)⟩⟩⟩⟩⟩⟩⟩
theorem FSTq.we (h : FSTq u w T o g) (hg : g ≤ g') : FSTq u w T o g' := by
  obtain ⟨a1, a2, a3⟩ := h
  refine ⟨a1.we (fun _ => Int.le_refl _) hg, a2, fun ha => ?_⟩
  obtain ⟨x, b1, b2, e, b3⟩ := a3 ha
  exact ⟨x, b1, b2, e, b3.we (fun _ => Int.le_refl _) hg⟩
/-- a first statement, told by the whole machine -/
theorem x_first {v : RSt} (hN : 5000000000 ≤ N) (h1 : 1 ≤ o) (hv : PRE v T) (hs : SLK 1 v) (hf : v.1 67 = 0) (ho : opn v = o) (h24 : o ≤ 24) (he : ENVq v (o - 1)) : wp (G_stat N v) (fun _ w => FSTq v w T o 550) := by
  unfold G_stat
  rw [show (100 : Nat) = 98 + 1 + 1 from rfl, fs_1]
  obtain ⟨M, hM⟩ : ∃ M : Nat, o + M = 25 := ⟨(25 - o).toNat, by omega⟩
  have hb : HBr (FS_ N 98) T o (525 + M) := s_all hN M o (by omega) hM 98 (by omega)
  refine wp_mono (e_first (g := 525 + (M + 1)) hN hv hs hf ho (by omega) h24 he (fun q hq a v2 p2 s2 o2 env2 => ?_) (by omega)) (fun _ w hw => hw.we (by omega))
  have up : ∀ {w : RSt}, STq v2 w T o 4 (525 + M) → STq v2 w T o 4 (525 + (M + 1)) := fun hw => hw.we (fun _ => Int.le_refl _) (by omega)
  rcases hq with rfl | rfl | rfl | rfl
  · rw [fs_2]
    exact wp_mono (e_choice hN p2 s2 o2 (by omega) (by omega) env2 hb (by omega)) (fun _ w hw => up hw)
  · rw [fs_3]
    exact wp_mono (e_again hN p2 s2 o2 (by omega) (by omega) env2 hb (by omega)) (fun _ w hw => up hw)
  · rw [fs_4]
    exact e_counts (g := 525 + M) hN p2 s2 o2 (by omega) (by omega) env2 hb (by omega)
  · rw [fs_5]
    refine wp_mono (e_cases hN p2 s2 o2 (by omega) (by omega) env2 (fun q2 => ?_) (by omega)) (fun _ w hw => up hw)
    obtain ⟨K, rfl⟩ : ∃ K, M = K + 1 := ⟨M - 1, by omega⟩
    exact (s_all hN K (o + 1) (by omega) (by omega) 98 (by omega)).we (by omega)
/-- entries told; a function's own may lie just here -/
def EVy (u : RSt) (H : Nat → Sh) : Prop := (∀ f : Nat, (f : Int) < (u.2.2.1 37 (toN u)).toInt → ENT u H (bsR u) (posR u) (u.2.2.1 32 (24 * toN u + 8 + f)) 2 ∨ ((u.2.2.1 32 (24 * toN u + 8 + f)).toInt = posR u ∧ md u = 2)) ∧ (∀ i : Nat, (i : Int) < (u.2.2.1 42 (toN u)).toInt → ENT u H (bsR u) (posR u) (u.2.2.1 32 (u.2.2.1 38 (24 * toN u + i)).toNatClampNeg) 1)
theorem FSTq.typ (h : FSTq u w T o g) (hg : g ≤ 600) (h74 : u.1 74 = 0) (ha : act w) (H : Nat → Sh) (hH : H (posR u) = (md u, nr (posR u), [])) (hE : EVy u H) : posR u < posR w ∧ opA w (posR u) = 1 ∧ ∃ H' : Nat → Sh, (∀ p, p ≤ posR u → H' p = H p) ∧ H' (posR w) = (md u, nr (posR w), []) ∧ ∀ pc, posR u ≤ pc → pc < posR w → LC w H' (bsR u) (posR w) pc := by
  obtain ⟨-, -, h3⟩ := h
  obtain ⟨x, cx, sx, e, sw⟩ := h3 ha
  have hax := sw.vv.ac ha
  have hau := cx.vv.ac hax
  have tw : TYP x w g [] [] := sw.typ (by rw [sx.1]; exact h74) ha
  obtain ⟨c0, c1, c2, c3, c4, -⟩ := (cx.2.2.2.2 hax.2).2.2 hau.1
  obtain ⟨c4, c5⟩ := c4 rfl
  have kx := sx.k
  have px : posR x = posR u + 1 := by omega
  have hbs : bsR u ≤ posR u := by unfold bsR posR; omega
  have eto := cx.1.to
  have ebs := cx.1.bs
  have emd := cx.1.mo
  obtain ⟨-, d1, -, d3⟩ := sw.vv.at_ ha
  obtain ⟨H1, hb1, hb2⟩ : ∃ H1 : Nat → Sh, (∀ p, p ≤ posR u → H1 p = H p) ∧ H1 (posR u + 1) = (md u, nr (posR u + 1), []) := by
    refine ⟨fun p => if p = posR u + 1 then (md u, nr (posR u + 1), []) else H p, fun p hp => ?_, ?_⟩
    · show (if p = posR u + 1 then _ else H p) = _
      rw [if_neg (by omega)]
    · show (if posR u + 1 = posR u + 1 then _ else H (posR u + 1)) = _
      rw [if_pos rfl]
  have hEx : EVq x H1 := by
    unfold EVq
    rw [eto, ebs, cx.1.2.1 32 (by decide), cx.1.2.1 37 (by decide), cx.1.2.1 38 (by decide), cx.1.2.1 42 (by decide)]
    refine ⟨fun f hf => ?_, fun i hi => (hE.2 i hi).fr (fun p hp => (c3 p hp).1) hb1 (by omega)⟩
    rcases hE.1 f hf with z | ⟨z, zm⟩
    · exact z.fr (fun p hp => (c3 p hp).1) hb1 (by omega)
    · exact ⟨posR u, z, hbs, by omega, by rw [hb1 _ (Nat.le_refl _), hH]; exact zm, by rw [hb1 _ (Nat.le_refl _), hH], Or.inr c5⟩
  obtain ⟨H2, e1, e2, e3⟩ := tw H1 [] (by rw [px, hb2, emd]; rfl) hEx (by simpa using hg)
  refine ⟨by omega, by rw [(d3 _ (by omega)).1]; exact c5, H2, fun p hp => (e1 p (by omega)).trans (hb1 p hp), by rw [e2, emd]; rfl, fun pc h1 h2 => ?_⟩
  by_cases q : pc = posR u
  · subst q
    have g0 : H2 (posR u) = (md u, nr (posR u), []) := by rw [e1 _ (by omega), hb1 _ (Nat.le_refl _), hH]
    have g1 : H2 (posR u + 1) = (md u, nr (posR u + 1), []) := by rw [e1 _ (by omega), hb2]
    exact ⟨by rw [g0]; exact Nat.zero_le _, Or.inl ⟨by rw [(d3 _ (by omega)).1]; exact c5, by omega, by omega, by rw [g1, g0], by rw [g1, g0]⟩⟩
  · have := e3 pc (by omega) h2
    rw [ebs] at this
    exact this
end RFirst
