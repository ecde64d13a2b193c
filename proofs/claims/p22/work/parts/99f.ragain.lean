/-! while, if. -/
section RAgain
variable {u0 u v w : RSt} {T N g g' g2 : Nat} {o o' e e' : Int} {α β γ τ : List (Int × Int)} {hs hs1 hs2 : List (Nat × List (Int × Int))} {bs cs bs1 cs1 bs2 cs2 : List Nat} {f : Bool} {ro : Nat → Int32 → Int32 → RSt → Option (Int32 × RSt)}
/-- a jump back to the start, where time is taken -/
theorem TYH.back {x a b : Int32} (h : TYH u v g α β hs) (hm : EMT v w x a b) (h0 : 0 ≤ (v.2.2.1 54 (toN v)).toInt) (h1 : (v.2.2.1 54 (toN v)).toInt < 8000) (ht : toN v ≤ 1) (e1 : EFr u v) (s1 : ∀ p, p < posR u → SAC u v p) (hx : x = 28) (ha : a.toInt = posR u) (hab : α = β) (hop : opA v (posR u) = 1) (hlt : posR u < posR v) (hr : ∀ y, y ∈ hs → y.1 < posR v) (hg : α.length ≤ g) : TYH u w g α γ hs := by
  intro H σ hH hE hl
  obtain ⟨H1, a1, a2, a3⟩ := h H σ hH hE hl
  have hp := hm.pos h0
  have hef := hm.ef h0 h1
  have hbs : bsR u ≤ posR u := by unfold bsR posR; omega
  have hto : posR v < 16000 := by unfold posR; omega
  obtain ⟨H2, hH', hN⟩ : ∃ H2 : Nat → Sh, (∀ p, p ≤ posR v → H2 p = H1 p) ∧ H2 (posR v + 1) = (md u, nr (posR v + 1), γ ++ σ) := by
    refine ⟨fun p => if p = posR v + 1 then (md u, nr (posR v + 1), γ ++ σ) else H1 p, fun p hp2 => ?_, ?_⟩
    · show (if p = posR v + 1 then _ else H1 p) = _
      rw [if_neg (by omega)]
    · show (if posR v + 1 = posR v + 1 then _ else H1 (posR v + 1)) = _
      rw [if_pos rfl]
  have k01 : ∀ p, p ≠ posR v → SAC v w p := hm.2.2.2.2.2.2.2.2.2
  have sop : SOP v w (posR v) := SOP.ef hef (fun p hp => (k01 p (by omega)).1)
  refine ⟨H2, fun p hp => (hH' p (by omega)).trans (a1 p hp), by rw [hp]; exact hN, fun pc h1 h2 => ?_⟩
  by_cases q : pc < posR v
  · rcases a3 pc h1 q with z | ⟨τ, z1, z2, z3, z4⟩
    · exact Or.inl ⟨z.1.sop sop (k01 pc (by omega)) (LW.of hH') q (by omega), z.2⟩
    · refine Or.inr ⟨τ, z1, by rw [hH' pc (by omega)]; exact z2, ?_, z4.fr sop (k01 pc (by omega)).2.2 (LW.of hH') (by omega)⟩
      rw [hH' pc (by omega)]
      exact Nat.lt_of_le_of_lt (nr_le (by omega)) z3
  · have e : pc = posR v := by omega
    subst e
    refine Or.inl ⟨⟨?_, ?_⟩, fun τ hm => ?_⟩
    · rw [hH' _ (Nat.le_refl _), a2]
      show (β ++ σ).length ≤ 600
      rw [← hab, List.length_append]; omega
    · have eo : opA w (posR v) = 28 := by rw [hm.2.2.2.2.2.2.1]; exact hx
      have ea : aA w (posR v) = a := hm.2.2.2.2.2.2.2.1
      refine Or.inr (Or.inr (Or.inr (Or.inr (Or.inr (Or.inr (Or.inr (Or.inr (Or.inr (Or.inr (Or.inr (Or.inr (Or.inr (Or.inr (Or.inl ⟨eo, posR u, by rw [ea]; exact ha, ?_⟩))))))))))))))
      rw [hH' _ (Nat.le_refl _), a2]
      refine ⟨hbs, by omega, ?_, ?_, Or.inr ⟨by rw [(k01 _ (by omega)).1]; exact hop, by omega, ?_⟩⟩
      · rw [hH' _ (by omega), hH' _ (Nat.le_refl _), a1 _ (Nat.le_refl _), hH, a2]
      · rw [hH' _ (by omega), a1 _ (Nat.le_refl _), hH, hab]
      · rw [hH' _ (Nat.le_refl _), a2]
        show 1 ≤ nr (posR v)
        unfold nr; omega
    · have := hr _ hm
      dsimp only at this
      omega
/-- a loop's body, from before its lists are made until they are taken back -/
theorem loop_in {a4 a5 : RSt} {x74 : Int32} (hn : NOC u a4) (h74 : (a4.1 74).toInt = (u.1 74).toInt + 1) (hd0 : 0 ≤ (u.1 74).toInt) (hd1 : (u.1 74).toInt < 30) (h75 : a4.2.2.1 75 (dL u) = -1) (h76 : a4.2.2.1 76 (dL u) = -1) (hls : ∀ i, i ≠ dL u → a4.2.2.1 75 i = u.2.2.1 75 i ∧ a4.2.2.1 76 i = u.2.2.1 76 i) (ho4 : CSv u a4 T o' 0) (hb : CSh a4 a5 T o e g [] [] (jl [] bs cs) bs cs) (hx : x74 = u.1 74) : CSh u (sI a5 74 x74) T o e g [] [] (jl [] bs cs) [] [] ∧ (act (sI a5 74 x74) → CHN (sI a5 74 x74) (a5.2.2.1 75 (dL u)) (-1) bs ∧ CHN (sI a5 74 x74) (a5.2.2.1 76 (dL u)) (-1) cs ∧ ∀ p, p ∈ bs ∨ p ∈ cs → posR u ≤ p ∧ p < posR (sI a5 74 x74) ∧ ¬ (p ∈ bs ∧ p ∈ cs)) := by
  have hD : dL u = (u.1 74).toInt.toNat := rfl
  have hD4 : dL a4 = dL u + 1 := by unfold dL; omega
  have n6 : NOC a5 (sI a5 74 x74) := ⟨rfl, rfl, fun _ _ => rfl, fun k hk => by rw [sI_1, if_neg hk]⟩
  have hp4 := hn.pos
  obtain ⟨b1, b2, b3⟩ := hb
  have l5 : ∀ i, i < dL u → a5.2.2.1 75 i = u.2.2.1 75 i ∧ a5.2.2.1 76 i = u.2.2.1 76 i := by
    intro i hi
    obtain ⟨c1, c2⟩ := b2.2 i (by omega)
    obtain ⟨d1, d2⟩ := hls i (by omega)
    exact ⟨c1.trans d1, c2.trans d2⟩
  refine ⟨⟨((ho4.tr b1).we (fun _ => by omega)).noc n6, ⟨?_, fun i hi => l5 i (by omega)⟩, fun ha => ?_⟩, fun ha => ?_⟩
  · show (sI a5 74 x74).1 74 = _
    rw [sI_1, if_pos rfl, hx]
  · have ha5 := n6.ac ha
    have ha4 := b1.ac ha5
    obtain ⟨c1, c2, c3, c4⟩ := b3 ha5
    obtain ⟨-, p1, -, s1⟩ := b1.at_ ha5
    refine ⟨?_, fun x hx => by rw [n6.pos, ← hp4]; exact c2 x hx, by simp, fun _ => ⟨rfl, rfl⟩, fun z => ?_⟩
    · have t1 := (hn.typ (α := [])).h.tr (g := g) c1 (by rw [hp4]; exact Nat.le_refl _) p1 hn.ef b1.1 (fun p _ => hn.sac p) s1 (Nat.zero_le _) (Nat.le_refl _) (by simp) (fun x hx => (c2 x hx).1)
      have t2 := t1.tr (g := g) (n6.typ (α := [])).h (by omega) (by rw [n6.pos]; exact Nat.le_refl _) (hn.ef.tr b1.1) n6.ef (fun p hp => (hn.sac p).tr (s1 p (by omega))) (fun p _ => n6.sac p) (Nat.le_refl _) (Nat.zero_le _) (fun x hx => (c2 x (by simpa using hx)).2) (by simp)
      simpa using t2
    · obtain ⟨y1, y2⟩ := l5 (dL u - 1) (by omega)
      exact ⟨y1, y2⟩
  · have ha5 := n6.ac ha
    obtain ⟨c1, c2, c3, c4⟩ := b3 ha5
    obtain ⟨y1, y2⟩ := c4.2 (by omega)
    rw [hD4] at y1 y2
    rw [show dL u + 1 - 1 = dL u by omega, h75] at y1
    rw [show dL u + 1 - 1 = dL u by omega, h76] at y2
    refine ⟨y1.fr (fun p _ => rfl), y2.fr (fun p _ => rfl), fun p hp => ?_⟩
    rw [n6.pos, ← hp4]
    exact c3 p hp
theorem CSh.lead {l1 : Int32} {j : Nat} {β' : Type} {k : Int32 → RSt → Option (β' × RSt)} {Q : β' → RSt → Prop} (hp : PRE u0 T) (h : CSh u0 v T o e g α β hs bs cs) (he : e ≤ 300) (hj : act v → l1.toInt = j ∧ (j, β) ∈ hs ∧ j ∉ bs ∧ j ∉ cs) (hu : act v → ∀ y, y ∈ hs → y.1 = j → y.2 = β) (kk : ∀ (r : Int32) (w : RSt), CSh u0 w T o e g α β (hs.filter fun y => decide (y.1 ≠ j)) bs cs → SM v w → (act v → PTS v w [j]) → wp (k r w) Q) : wp (bn (F_lead N l1 v) k) Q := by
  rw [wp_bn]
  have hb := h.1.bnd hp he
  have hj2 : act v → l1.toInt = j ∧ j < 16000 := by
    intro ha
    obtain ⟨z1, z2, -⟩ := hj ha
    have := (h.2.2 ha).2.1 _ z2
    have b := hb.2.2 ha
    have t1 := h.1.tl hp
    have : posR v ≤ 15900 := by unfold posR; omega
    exact ⟨z1, by omega⟩
  refine wp_mono (x_lead hb hj2) (fun r w hw => ?_)
  obtain ⟨h1, h2⟩ := hw
  refine kk r w ?_ ?_ (fun ha => (h1 ha).s)
  · refine CSh.led (ps := [j]) hp h he (fun ha => (h1 ha).s) h2 (fun ha => ?_) (fun y => ?_)
    · obtain ⟨z1, z2, z3, z4⟩ := hj ha
      refine ⟨fun y hy hm => hu ha y hy (by simpa using hm), fun p hm => ⟨β, ?_⟩, fun p hm z => ?_⟩
      · have : p = j := by simpa using hm
        rw [this]; exact z2
      · have : p = j := by simpa using z
        subst this
        rcases hm with y | y
        · exact z3 y
        · exact z4 y
    · rw [List.mem_filter]; simp
  · by_cases ha : act v
    · exact (h1 ha).sm
    · rw [h2 ha]; exact SM.rf
theorem CSh.leads {l1 : Int32} {ps : List Nat} {β' : Type} {k : Int32 → RSt → Option (β' × RSt)} {Q : β' → RSt → Prop} (hN : 5000000000 ≤ N) (hp : PRE u0 T) (h : CSh u0 v T o e g α β hs bs cs) (he : e ≤ 300) (hj : act v → CHN v l1 (-1) ps ∧ ∀ p, p ∈ ps → (p, β) ∈ hs ∧ p ∉ bs ∧ p ∉ cs) (hu : act v → ∀ y, y ∈ hs → y.1 ∈ ps → y.2 = β) (kk : ∀ (r : Int32) (w : RSt), CSh u0 w T o e g α β (hs.filter fun y => decide (y.1 ∉ ps)) bs cs → SM v w → (act v → PTS v w ps) → wp (k r w) Q) : wp (bn (F_leadAll N l1 v) k) Q := by
  rw [wp_bn]
  have hb := h.1.bnd hp he
  have hj2 : act v → CHN v l1 (-1) ps ∧ ∀ p, p ∈ ps → p < 16000 := by
    intro ha
    obtain ⟨z1, z2⟩ := hj ha
    refine ⟨z1, fun p hm => ?_⟩
    have := (h.2.2 ha).2.1 _ (z2 p hm).1
    have b := hb.2.2 ha
    have t1 := h.1.tl hp
    have : posR v ≤ 15900 := by unfold posR; omega
    omega
  refine wp_mono (x_leadAll (by omega) hb hj2) (fun r w hw => ?_)
  obtain ⟨h1, h2⟩ := hw
  refine kk r w ?_ ?_ h1
  · refine CSh.led (ps := ps) hp h he h1 h2 (fun ha => ?_) (fun y => ?_)
    · obtain ⟨z1, z2⟩ := hj ha
      refine ⟨hu ha, fun p hm => ⟨β, (z2 p hm).1⟩, fun p hm z => ?_⟩
      obtain ⟨-, y1, y2⟩ := z2 p z
      rcases hm with y | y
      · exact y1 y
      · exact y2 y
    · rw [List.mem_filter]; simp
  · by_cases ha : act v
    · exact (h1 ha).sm
    · rw [h2 ha]; exact SM.rf
theorem CSh.back {x a b r : Int32} (hp : PRE u0 T) (h : CSh u0 v T o e g α α hs bs cs) (he : e ≤ 300) (hm : (¬ act v ∧ w = v) ∨ (act v ∧ r.toInt = posR v ∧ EMT v w x a b)) (hx : x = 28) (hr : act v → a.toInt = posR u0 ∧ opA v (posR u0) = 1 ∧ posR u0 < posR v) (hg : α.length ≤ g) : CSh u0 w T o (e + 1) g α γ hs bs cs := by
  obtain ⟨a1, a2, a3⟩ := h
  have hbd := a1.bnd hp he
  have v1 := a1.emit hp he hm
  rcases hm with ⟨q, rfl⟩ | ⟨q, qr, qm⟩
  · exact ⟨v1, a2, fun ha => absurd ha q⟩
  · obtain ⟨b1, b2⟩ := hbd.2.2 q
    obtain ⟨r1, r2, r3⟩ := hr q
    obtain ⟨c1, c2, c3, c4⟩ := a3 q
    obtain ⟨-, p1, -, s1⟩ := a1.at_ q
    have hpo := qm.pos b1
    refine ⟨v1, a2.tr qm.lsm.l7, fun _ => ⟨c1.back qm b1 (by omega) (a1.tl hp) a1.1 s1 hx r1 rfl r2 r3 (fun y hy => (c2 y hy).2) hg, fun y hy => ?_, fun p hy => ?_, c4.1, fun z => ?_⟩⟩
    · have := c2 y hy; omega
    · obtain ⟨y1, y2, y3⟩ := c3 p hy
      exact ⟨y1, by omega, y3⟩
    · obtain ⟨y1, y2⟩ := c4.2 z
      have k01 := qm.2.2.2.2.2.2.2.2.2
      rw [qm.2.2.2.1 75 (by decide), qm.2.2.2.1 76 (by decide)]
      exact ⟨y1.fr (fun p hm => (k01 p (by have := (c3 p (Or.inl hm)).2.1; omega)).2.1), y2.fr (fun p hm => (k01 p (by have := (c3 p (Or.inr hm)).2.1; omega)).2.1)⟩
theorem e_again {l1 : Int32} (hN : 5000000000 ≤ N) (hp : PRE u T) (hs : SLK 5 u) (ho : u.1 67 = 0 → opn u = o ∧ 0 ≤ o ∧ o ≤ 24) (h0 : 0 ≤ o) (h25 : o ≤ 25) (hd : ENVq u (o - 1)) (hB : HBr ro T o g) (hg : 525 ≤ g) : wp (F_again N ro l1 u) (fun _ w => STq u w T o 4 g) := by
  obtain ⟨d0, d1, d2⟩ := id hd
  have e1 : (1 : Int32).toInt = 1 := by decide
  unfold F_again B_again_0
  rw [wp_bn]
  refine wp_mono (x_here2 (hp.2.2.b hp.2.1 hp.1)) (fun r2 u' hr2 => ?_)
  obtain ⟨rfl, hr2⟩ := hr2
  rw [wp_bn]
  refine wp_mono (x_expression hN h0 h25 hp ho) (fun _ a1 h1 => ?_)
  have c1 := h1.h
  rw [wp_bn]
  refine wp_mono (r_emit (c1.1.bnd hp (by omega))) (fun r6 a2 m2 => ?_)
  have c2 : CSh u' a2 T o 1 525 [] [] [(posR a1, [])] [] [] := by
    have := CSh.hol (τ := []) (γ := []) (g' := 525) hp c1 (by omega) (by omega) m2 (fun _ qm b1 b2 b3 => hl_test qm b1 b2 b3 (Or.inl rfl) (by simp))
    simpa using this
  have E12 := emE (c1.1.bnd hp (by omega)) m2
  have hp2 : PRE a2 T := c2.1.pre2 hs hp (by omega)
  refine c_cost hp2 (CSq.rf (g := 525) (α := []) hp2 (fun z => c2.1.ho z)) (by omega) (by simp) (fun _ a3 h3 s3 => ?_)
  have c3 : CSh u' a3 T o 2 525 [] [] [(posR a1, [])] [] [] := (c2.sub h3 (Nat.le_refl _) (Nat.le_refl _)).we (fun _ => by omega) (Nat.le_refl _) (fun _ => Iff.rfl)
  have e74 : a3.1 74 = u'.1 74 := c3.2.1.1
  have e74i : (a3.1 74).toInt = (u'.1 74).toInt := by rw [e74]
  have hp3 : PRE a3 T := c3.1.pre2 hs hp (by omega)
  rw [wp_bn]
  refine wp_mono (x_loop (by rw [e74]; exact d0) (by rw [e74]; omega)) (fun _ a4 h4 => ?_)
  obtain ⟨hn, h74, h75, h76, hls⟩ := h4
  have v4 : CSv u' a4 T o 2 := c3.1.noc hn
  have v34 : CSv a3 a4 T o 0 := (CSv.rf hp3 (fun z => c3.1.ho z)).noc hn
  have env4 : ENVq a4 o := by
    refine ⟨by rw [h74, e74]; omega, by rw [h74, e74]; omega, fun ha h3 => ?_⟩
    rw [v4.1.1 70 (by decide)] at h3
    rw [v4.1.1 71 (by decide)]
    exact d2 (v4.ac ha) h3
  rw [wp_bn]
  refine wp_mono (hB a4 (v4.pre2 hs hp (by omega)) (v4.slk hs hp (by omega)) (fun z => v4.ho z) env4) (fun _ a5 h5 => wp_pu.mpr ?_)
  obtain ⟨bs, cs, hb⟩ := h5
  have e74b : a5.1 74 - 1 = a3.1 74 := by
    refine tI_eq.mpr ?_
    rw [hb.2.1.1, tI_sub (by omega) (by omega), e1]
    omega
  obtain ⟨cin, chn⟩ := loop_in (x74 := a5.1 74 - 1) hn h74 (by rw [e74]; exact d0) (by rw [e74]; omega) h75 h76 hls v34 hb e74b
  have c6 := c3.tr cin (g' := g) hg (Nat.le_refl _)
  have l6 : (sI a5 74 (a5.1 74 - 1)).2.2.1 = a5.2.2.1 := rfl
  have i6 : (sI a5 74 (a5.1 74 - 1)).1 74 = u'.1 74 := c6.2.1.1
  have o6 : ∀ p, opA (sI a5 74 (a5.1 74 - 1)) p = opA a5 p := fun _ => rfl
  have a65 : act (sI a5 74 (a5.1 74 - 1)) → act a5 := fun h => h
  generalize sI a5 74 (a5.1 74 - 1) = a6 at cin chn c6 l6 i6 o6 a65 ⊢
  have hv30 : vp_in (u'.1 74) 30 := vin_iff.mpr ⟨d0, by omega⟩
  have hDi : (u'.1 74).toNatClampNeg = dL a3 := by unfold dL; rw [e74]; rfl
  rw [i6]
  refine wp_rd.mpr ⟨hv30, ?_⟩
  rw [l6, hDi]
  -- places
  have p12 : act a6 → posR a1 < posR a3 := by
    intro ha
    have ha3 := cin.1.ac ha
    have := (c3.2.2 ha3).2.1 (posR a1, []) (by simp)
    exact this.2
  have p01 : act a6 → posR u' < posR a1 ∧ opA a6 (posR u') = 1 := by
    intro ha
    have ha3 := cin.1.ac ha
    have ha2 : act a2 := h3.1.act ha3
    have ha1 : act a1 := E12.act ha2
    have hu := h1.1.act ha1
    obtain ⟨-, -, -, -, f1, -⟩ := (h1.2.2.2.2 ha1.2).2.2 hu.1
    obtain ⟨f1, f2⟩ := f1 rfl
    refine ⟨f1, ?_⟩
    have := (cin.1.at_ ha).2.2.2 (posR u') (by have := p12 ha; omega)
    rw [this.1]
    have h23 := (h3.vv.at_ ha3).2.2.2 (posR u') (by
      rcases m2 with ⟨z, -⟩ | ⟨-, -, z⟩
      · exact absurd ha1 z
      · have := z.pos (c1.1.at_ ha1).1
        omega)
    rw [h23.1]
    rcases m2 with ⟨z, -⟩ | ⟨-, -, z⟩
    · exact absurd ha1 z
    · rw [(z.2.2.2.2.2.2.2.2.2 (posR u') (by omega)).1]
      exact f2
  have n1c : act a6 → posR a1 ∉ bs ∧ posR a1 ∉ cs := by
    intro ha
    obtain ⟨-, -, c⟩ := chn ha
    have := p12 ha
    exact ⟨fun z => by have := c _ (Or.inl z); omega, fun z => by have := c _ (Or.inr z); omega⟩
  have mem6 : ∀ y, y ∈ [(posR a1, ([] : List (Int × Int)))] ++ jl [] bs cs → y.2 = [] ∧ (y.1 = posR a1 ∨ y.1 ∈ bs ∨ y.1 ∈ cs) := by
    intro y hy
    rcases List.mem_append.mp hy with z | z
    · have : y = (posR a1, []) := by simpa using z
      subst this
      exact ⟨rfl, Or.inl rfl⟩
    · obtain ⟨z1, z2⟩ := jl_mem.mp z
      exact ⟨z2, Or.inr z1⟩
  refine CSh.leads (ps := cs) hN hp c6 (by omega) (fun ha => ⟨(chn ha).2.1, fun p hm => ⟨List.mem_append.mpr (Or.inr (jl_mem.mpr ⟨Or.inr hm, rfl⟩)), by simp, by simp⟩⟩) (fun _ y hy _ => (mem6 y hy).1) (fun _ a7 c7 s7 t7 => ?_)
  have a76 : act a7 → act a6 := fun ha => s7.ac ha
  rw [wp_bn]
  refine wp_mono (r_emit (c7.1.bnd hp (by omega))) (fun r8 a8 m8 => ?_)
  have c8 := CSh.back (γ := []) hp c7 (by omega) m8 rfl (fun ha => ⟨hr2 (c7.1.ac ha), by
    rw [(t7 (a76 ha)).op]; exact (p01 (a76 ha)).2, by
    rw [(t7 (a76 ha)).pos]
    have := p01 (a76 ha)
    have := p12 (a76 ha)
    have := (cin.1.at_ (a76 ha)).2.1
    omega⟩) (by simp)
  have a87 : act a8 → act a7 := by
    intro ha
    rcases m8 with ⟨-, rfl⟩ | ⟨z, -, -⟩
    · exact ha
    · exact z
  refine CSh.lead (j := posR a1) hp c8 (by omega) (fun ha => ?_) (fun _ y hy _ => (mem6 y (List.mem_filter.mp hy).1).1) (fun _ a9 c9 s9 t9 => ?_)
  · have ha6 := a76 (a87 ha)
    refine ⟨?_, ?_, by simp, by simp⟩
    · have ha1 : act a1 := E12.act (h3.1.act (cin.1.ac ha6))
      rcases m2 with ⟨z, -⟩ | ⟨-, z, -⟩
      · exact absurd ha1 z
      · exact z
    · rw [List.mem_filter]
      exact ⟨by simp, by simpa using (n1c ha6).2⟩
  have s69 : a9.1 74 = u'.1 74 ∧ a9.2.2.1 75 = a5.2.2.1 75 := by
    have q1 : a9.1 = a8.1 := s9.1
    have q2 : a9.2.2.1 75 = a8.2.2.1 75 := s9.2.1 75 (by decide)
    have q3 : a8.1 = a7.1 ∧ a8.2.2.1 75 = a7.2.2.1 75 := by
      rcases m8 with ⟨-, rfl⟩ | ⟨-, -, z⟩
      · exact ⟨rfl, rfl⟩
      · exact ⟨z.1, z.2.2.2.1 75 (by decide)⟩
    exact ⟨by rw [q1, q3.1, s7.1, i6], by rw [q2, q3.2, s7.2.1 75 (by decide), l6]⟩
  rw [s69.1]
  refine wp_rd.mpr ⟨hv30, ?_⟩
  rw [s69.2, hDi]
  refine CSh.leads (ps := bs) hN hp c9 (by omega) (fun ha => ?_) (fun _ y hy _ => (mem6 y (List.mem_filter.mp (List.mem_filter.mp hy).1).1).1) (fun _ a10 c10 _ _ => wp_some.mpr ⟨[], [], ?_⟩)
  · have ha8 := s9.ac ha
    have ha7 := a87 ha8
    have ha6 := a76 ha7
    obtain ⟨y1, y2, y3⟩ := chn ha6
    have t7 := t7 ha6
    have t9 := t9 ha8
    have z8 : EMT a7 a8 28 r2 0 := by
      rcases m8 with ⟨z, -⟩ | ⟨-, -, z⟩
      · exact absurd ha7 z
      · exact z
    refine ⟨y1.fr (fun p hm => ?_), fun p hm => ⟨?_, by simp, by simp⟩⟩
    · obtain ⟨x1, x2, x3⟩ := y3 p (Or.inl hm)
      have np : p ≠ posR a1 := fun z => (n1c ha6).1 (by rw [← z]; exact hm)
      rw [t9.2.2.2.2.2 p (by simpa using np), (z8.2.2.2.2.2.2.2.2.2 p (by rw [t7.pos]; omega)).2.1, t7.2.2.2.2.2 p (fun z => x3 ⟨hm, z⟩)]
    · obtain ⟨x1, x2, x3⟩ := y3 p (Or.inl hm)
      have np : p ≠ posR a1 := fun z => (n1c ha6).1 (by rw [← z]; exact hm)
      rw [List.mem_filter, List.mem_filter]
      refine ⟨⟨List.mem_append.mpr (Or.inr (jl_mem.mpr ⟨Or.inl hm, rfl⟩)), ?_⟩, by simpa using np⟩
      have : p ∉ cs := fun z => x3 ⟨hm, z⟩
      simpa using this
  · refine c10.we (fun _ => by omega) (Nat.le_refl _) (fun y => ?_)
    constructor
    · intro hy
      exfalso
      obtain ⟨h1, q1⟩ := List.mem_filter.mp hy
      obtain ⟨h2, q2⟩ := List.mem_filter.mp h1
      obtain ⟨h3, q3⟩ := List.mem_filter.mp h2
      have q1 : y.1 ∉ bs := by simpa using q1
      have q2 : y.1 ≠ posR a1 := by simpa using q2
      have q3 : y.1 ∉ cs := by simpa using q3
      rcases (mem6 y h3).2 with z | z | z
      · exact q2 z
      · exact q1 z
      · exact q3 z
    · intro hy
      simp [jl] at hy
end RAgain
