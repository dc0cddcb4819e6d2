/-! all rows: class and reference side by side -/
theorem wH_cg {lost pn pn2 : Nat → Int32} {j : Nat} (hj : j < 6) (h : ∀ t, t ≤ 11 → pn t = pn2 t) : wH lost pn j = wH lost pn2 j := by
  have ht := wT_le (lost := lost) j
  unfold wH
  exact qsumP_cg _ (fun t h2 => h t (by omega))
section T9
variable {E : qE} {S S1 S2 : qSh} {I I1 I2 : qI} {J J1 J2 : qJ} {T T2 : qI → Prop} {v v2 : Option Value}
/-- the living, for both -/
theorem uINV.now {M : qI} {w : Nat} (g : uINV S I J) (hw : qR S 6 5 = some w) (hm : ∀ a, 114 ≤ a → a ≤ 147 → M a = I a) : xDo I M 6 w ∧ ∃ d, d ≤ 9999 ∧ I 6 4 = nI d := by
  obtain ⟨⟨w0, w1, w2, bl, hC⟩, -, hr, t1, -⟩ := id g.1.1
  have hnum := g.1.1.2.2.2.2.2.2.2.1.2.2
  obtain ⟨a1, a2, a3, a4, a5, a6, a7, a8⟩ := t1
  have vh : vH I 6 (kp I) := g.1.2.2.1
  obtain ⟨c, c6, hc, l, l6, hl, hla, hlb, -⟩ := hr.lst
  have hc6 : I 6 1 = nI c := a1.symm.trans hc
  have hl6 : I 6 3 = nI l := a2.symm.trans hl
  obtain ⟨dd, d9, hd⟩ : ∃ d, d ≤ 9999 ∧ I 114 10 = nI d := by
    obtain ⟨n, h1, ⟨-, -, -, k4, -⟩, -⟩ := hr
    exact k4
  have hd6 : I 6 4 = nI dd := a3.symm.trans hd
  have m114 : M 114 = I 114 := hm 114 (by omega) (by omega)
  refine ⟨⟨c, l, dd, c6, l6, hc6, by rw [m114]; exact hc, hl6, by rw [m114]; exact hl, hd6, by rw [m114]; exact hd, by omega, ?_, fun i hi => ?_, fun p hp => ?_⟩, dd, d9, hd6⟩
  · rw [m114]
    exact (g.1.2.1 w hw).fr (fun b hb => rfl) (fun a ha => hm a (by omega) (by omega)) (by rw [m114])
  · obtain ⟨p, p1, p2⟩ := hla i hi
    have := a8 l i l6 hl6 hi
    rw [kp_122 (by omega)] at this
    exact ⟨p, p1, this.symm.trans p2, by rw [hm 122 (by omega) (by omega)]; exact p2⟩
  · obtain ⟨b1, b0, b2⟩ := a7 c p c6 hc6 hp
    obtain ⟨h3, h4, h5, h6, h7, -, h9⟩ := vh c p c6 hc6 hp
    obtain ⟨g1, g2, g3, g4⟩ := kp_h4 (I := I) (p := p) (by omega)
    rw [kp_h4' (by omega)] at b1
    rw [kp_116 (by omega)] at b0
    rw [g1] at h3
    rw [g2] at h4
    rw [g3] at h5
    rw [g4] at h6
    unfold xMo
    rw [hm 115 (by omega) (by omega), hm 116 (by omega) (by omega), hm 117 (by omega) (by omega), hm 118 (by omega) (by omega), hm 119 (by omega) (by omega), hm 120 (by omega) (by omega), hm 121 (by omega) (by omega)]
    exact ⟨hnum p (by omega), b1.symm, b0.symm, h3.symm, h4.symm, h5.symm, h6.symm, h7, h9, fun r hr' => by have := b2 r hr'; rw [kp_121 (by omega)] at this; exact this.symm⟩
/-- what each hurts by each place, for both; who is left -/
theorem tINV.rows {w0 w1 w2 bl : Nat} (g : tINV S I J) (hC : cINV S I J w0 w1 w2 bl) : ∃ (c dd : Nat) (h : Nat → Nat → Nat), c ≤ 6 ∧ I 6 1 = nI c ∧ dd ≤ 9999 ∧ I 6 4 = nI dd ∧ cHh I w0 c h ∧ ∀ M : qI, (∀ a, 114 ≤ a → a ≤ 147 → M a = I a) → M 114 0 = nI c ∧ rHh M c h ∧ rWl M c = cWl I c := by
  have hw : qR S 6 5 = some w0 := hC.1.p6.1
  have hI0 : qIsOK I w0 := hC.2.2.2.2.2.1
  obtain ⟨-, d, d9, hd⟩ := g.1.now (M := I) hw (fun _ _ _ => rfl)
  obtain ⟨c, l, dd, c6, l6, hc, -, -, -, hd', -, hdd, -⟩ := (g.1.now (M := I) hw (fun _ _ _ => rfl)).1
  have both : ∀ M : qI, (∀ a, 114 ≤ a → a ≤ 147 → M a = I a) → M 114 0 = nI c ∧ (cls I 6 w0 = rls M) ∧ (∀ p, p < c → ∀ t, t ≤ 11 → cpn I 6 w0 p t = rpn M p t) ∧ rWl M c = cWl I c := fun M hm => by
    obtain ⟨⟨c', l', d', c6', l6', hc', hM0, -, -, hd6, hdM, hdd', hil, -, hp⟩, -⟩ := g.1.now (M := M) hw hm
    have ec : c' = c := (nI_eq (by omega) (by omega)).mp (hc'.symm.trans hc)
    subst ec
    refine ⟨hM0, ?_, fun p hpc t ht => ?_, nWl_cg c' (fun p hpc => ?_)⟩
    · funext t
      unfold cls rls
      rw [x_lost hil, hd6, hdM]
    · obtain ⟨g0, g1, g2, g3, g4, g5, g6, gb, gw, gr⟩ := hp p hpc
      unfold cpn qpainAt rpn
      rw [hd6, hdM, g4, nI_add]
      exact x_pain g0 g1 g2 g3 gr hil (by omega)
    · obtain ⟨g0, g1, g2, g3, g4, g5, g6, gb, gw, gr⟩ := hp p hpc
      exact g6.symm
  have pb : ∀ p, p < c → ∀ t, t ≤ 11 → bN (cpn I 6 w0 p t) 4000 := fun p hpc t ht => by
    obtain ⟨⟨c', l', d', c6', l6', hc', hM0, -, -, hd6, hdM, hdd', hil, -, hp⟩, -⟩ := g.1.now (M := I) hw (fun _ _ _ => rfl)
    have ec : c' = c := (nI_eq (by omega) (by omega)).mp (hc'.symm.trans hc)
    subst ec
    obtain ⟨g0, g1, g2, g3, g4, g5, g6, gb, gw, gr⟩ := hp p hpc
    have kb := g.2.1
    have b6 : bN (I 116 p) 9 := by
      have b := kb (6 + p) (by omega) (Or.inl (by omega))
      have e : bT (6 + p) = 9 := by unfold bT; rw [if_pos (by omega)]
      rw [kp_116 (by omega), e] at b
      exact b
    have b7 : bN (I 117 p) 99 := by
      have b := kb (12 + p) (by omega) (Or.inl (by omega))
      have e : bT (12 + p) = 99 := by unfold bT; rw [if_neg (by omega), if_pos (by omega)]
      rw [kp_117 (by omega), e] at b
      exact b
    have b8 : bN (I 118 p) 99 := by
      have b := kb (18 + p) (by omega) (Or.inl (by omega))
      have e : bT (18 + p) = 99 := by unfold bT; rw [if_neg (by omega), if_pos (by omega)]
      rw [kp_118 (by omega), e] at b
      exact b
    have b1 : ∀ r, r < 4 → bN (I 121 (4 * p + r)) 9 := fun r hr => by
      have b := kb (42 + (4 * p + r)) (by omega) (Or.inr (by omega))
      have e : bT (42 + (4 * p + r)) = 9 := by unfold bT; rw [if_neg (by omega), if_neg (by omega)]
      rw [kp_121 (by omega), e] at b
      exact b
    have hmo : bMo I (qm 6 p) := ⟨by rw [g2]; exact b6, by rw [g3]; exact b7, by rw [g4]; exact b8, fun r hr => by rw [gr r hr]; exact b1 r hr⟩
    obtain ⟨m, m1, em⟩ := b8
    unfold cpn qpainAt
    rw [hd6, g4, em, nI_add, nI_add]
    refine qpain_b hI0 (g.2.2.2.1 w0 hw) hmo ?_ (by omega)
    exact bN_min (A := 99) (B := 120) ⟨m + t, by omega, rfl⟩ (by omega) (by omega)
  have hb : cHh I w0 c (fun p j => (wH (cls I 6 w0) (cpn I 6 w0 p) j).toNatClampNeg) := fun p j hpc hj => by
    obtain ⟨n, n1, e⟩ := wH_b (lost := cls I 6 w0) (pb p hpc) j hj
    show wH _ _ _ = nI (wH _ _ _).toNatClampNeg ∧ (wH _ _ _).toNatClampNeg < 2 ^ 20
    rw [e, qcl (n := n) (by omega)]
    exact ⟨rfl, by omega⟩
  have ed : dd = d := (nI_eq (by omega) (by omega)).mp (hd'.symm.trans hd)
  refine ⟨c, dd, _, c6, hc, by omega, hd', hb, fun M hm => ?_⟩
  obtain ⟨m0, el, ep, ew⟩ := both M hm
  refine ⟨m0, fun p j hpc hj => ?_, ew⟩
  rw [← el, ← wH_cg hj (ep p hpc)]
  exact hb p j hpc hj
theorem K_bestX {x k : Int32} {w0 w1 w2 bl c dd : Nat} {hh : Nat → Nat → Nat} (h : cINV S I J w0 w1 w2 bl) (hc : I 6 1 = nI c) (hc6 : c ≤ 6) (hdd : I 6 4 = nI dd) (hd9 : dd ≤ 9999) (H : cHh I w0 c hh) : qMet E y_On_best b_On_best 3 (some .int) 6 0 0 [.ref (qb E + 0), .int x, .int k] S I J (fun u S' I' J' => ((u = some (.int (aBest (cWl I c).length (nF hh 0 (cWl I c)) x k)) ∧ cU I I' J J') ∧ cW S S' I I') ∧ KQ0 S I J (cT I) u S' I' J') := by
  have h0 := h
  have hw4 := h.w4
  obtain ⟨hO, hZ, hN, ⟨e0, e1, e2, eb, s0, s2, s3⟩, hd⟩ := h
  obtain ⟨hok, hI0, hI2, hah, him, hig, hrd, hts, hh⟩ := id hd
  refine (c_On_bestX hO e0 hok hI0 hc hc6 hdd hd9 H).px (fun u S' I' J' hq => ⟨⟨hq.1, cU.qpr e0 hq.2.2.1 hq.2.2.2⟩, cW.qpr hO e0 e2 s3 hq.2.1 hq.2.2.1⟩) (fun v S' I' J' hq => ?_)
  obtain ⟨-, rfl, fr, fj⟩ := hq
  unfold qW1 at e0 e2
  refine ⟨⟨_, _, _, _, h0.new (hd.fr (fun a ha => fr a ?_) e0 e2) (fun a ha => fr a ?_) (fun a ha => fj a (by omega))⟩, id, fun a a1 a2 => ⟨fr a ?_, fj a (by omega)⟩, congrFun (fr 6 ?_) 1, congrFun (fr 0 ?_) 4, congrFun (fr 60 ?_) 1⟩
  · unfold cR at ha; unfold qPr; omega
  all_goals (unfold qPr; omega)
theorem K_oddsX {q p : Int32} {w0 w1 w2 bl c dd : Nat} {hh : Nat → Nat → Nat} (h : cINV S I J w0 w1 w2 bl) (hc : I 6 1 = nI c) (hc6 : c ≤ 6) (hdd : I 6 4 = nI dd) (hd9 : dd ≤ 9999) (H : cHh I w0 c hh) : qMet E y_On_odds b_On_odds 3 (some .long) 6 0 0 [.ref (qb E + 0), .int q, .int p] S I J (fun u S' I' J' => ((u = some (.long (aOdds (nF hh q.toNatClampNeg (cWl I c)) q p)) ∧ cU I I' J J') ∧ cW S S' I I') ∧ KQ0 S I J (cT I) u S' I' J') := by
  have h0 := h
  have hw4 := h.w4
  obtain ⟨hO, hZ, hN, ⟨e0, e1, e2, eb, s0, s2, s3⟩, hd⟩ := h
  obtain ⟨hok, hI0, hI2, hah, him, hig, hrd, hts, hh⟩ := id hd
  refine (c_On_oddsX hO e0 hok hI0 hc hc6 hdd hd9 H).px (fun u S' I' J' hq => ⟨⟨hq.1, cU.qpr e0 hq.2.2.1 hq.2.2.2⟩, cW.qpr hO e0 e2 s3 hq.2.1 hq.2.2.1⟩) (fun v S' I' J' hq => ?_)
  obtain ⟨-, rfl, fr, fj⟩ := hq
  unfold qW1 at e0 e2
  refine ⟨⟨_, _, _, _, h0.new (hd.fr (fun a ha => fr a ?_) e0 e2) (fun a ha => fr a ?_) (fun a ha => fj a (by omega))⟩, id, fun a a1 a2 => ⟨fr a ?_, fj a (by omega)⟩, congrFun (fr 6 ?_) 1, congrFun (fr 0 ?_) 4, congrFun (fr 60 ?_) 1⟩
  · unfold cR at ha; unfold qPr; omega
  all_goals (unfold qPr; omega)
theorem K_meanX {p : Int32} {w0 w1 w2 bl c dd : Nat} {hh : Nat → Nat → Nat} (h : cINV S I J w0 w1 w2 bl) (hc : I 6 1 = nI c) (hc6 : c ≤ 6) (hdd : I 6 4 = nI dd) (hd9 : dd ≤ 9999) (H : cHh I w0 c hh) : qMet E y_On_mean b_On_mean 2 (some .long) 6 0 0 [.ref (qb E + 0), .int p] S I J (fun u S' I' J' => ((u = some (.long (aMean (nF hh 0 (cWl I c)) p)) ∧ cU I I' J J') ∧ cW S S' I I') ∧ KQ0 S I J (cT I) u S' I' J') := by
  have h0 := h
  have hw4 := h.w4
  obtain ⟨hO, hZ, hN, ⟨e0, e1, e2, eb, s0, s2, s3⟩, hd⟩ := h
  obtain ⟨hok, hI0, hI2, hah, him, hig, hrd, hts, hh⟩ := id hd
  refine (c_On_meanX hO e0 hok hI0 hc hc6 hdd hd9 H).px (fun u S' I' J' hq => ⟨⟨hq.1, cU.qpr e0 hq.2.2.1 hq.2.2.2⟩, cW.qpr hO e0 e2 s3 hq.2.1 hq.2.2.1⟩) (fun v S' I' J' hq => ?_)
  obtain ⟨-, rfl, fr, fj⟩ := hq
  unfold qW1 at e0 e2
  refine ⟨⟨_, _, _, _, h0.new (hd.fr (fun a ha => fr a ?_) e0 e2) (fun a ha => fr a ?_) (fun a ha => fj a (by omega))⟩, id, fun a a1 a2 => ⟨fr a ?_, fj a (by omega)⟩, congrFun (fr 6 ?_) 1, congrFun (fr 0 ?_) 4, congrFun (fr 60 ?_) 1⟩
  · unfold cR at ha; unfold qPr; omega
  all_goals (unfold qPr; omega)
theorem R_bestX {x k : Int32} {c : Nat} {hh : Nat → Nat → Nat} (hM : isMd S) (h : rDat I) (hc : I 114 0 = nI c) (c6 : c ≤ 6) (H : rHh I c hh) : qMet E y_Md_best b_Md_best 3 (some .int) 9 0 0 [.ref (qb E + 114), .int x, .int k] S I J (fun u S' I' J' => ((u = some (.int (aBest (rWl I c).length (nF hh 0 (rWl I c)) x k)) ∧ rU I I' J J') ∧ rW I I') ∧ RQ0 S I J (rT I) u S' I' J') := by
  refine (c_Md_bestX hM h.day hc c6 H).px (fun u S' I' J' hq => by obtain ⟨h, -, hs, hj⟩ := hq; exact ⟨⟨h, rU.ask hs hj⟩, rW.ask hs⟩) (fun v S' I' J' hq => ?_)
  obtain ⟨-, hS, hs, hj⟩ := hq
  exact RQ.ask h hS hs hj
theorem R_oddsX {q p : Int32} {c : Nat} {hh : Nat → Nat → Nat} (hM : isMd S) (h : rDat I) (hc : I 114 0 = nI c) (c6 : c ≤ 6) (H : rHh I c hh) : qMet E y_Md_odds b_Md_odds 3 (some .long) 9 0 0 [.ref (qb E + 114), .int q, .int p] S I J (fun u S' I' J' => ((u = some (.long (aOdds (nF hh q.toNatClampNeg (rWl I c)) q p)) ∧ rU I I' J J') ∧ rW I I') ∧ RQ0 S I J (rT I) u S' I' J') := by
  refine (c_Md_oddsX hM h.day hc c6 H).px (fun u S' I' J' hq => by obtain ⟨h, -, hs, hj⟩ := hq; exact ⟨⟨h, rU.ask hs hj⟩, rW.ask hs⟩) (fun v S' I' J' hq => ?_)
  obtain ⟨-, hS, hs, hj⟩ := hq
  exact RQ.ask h hS hs hj
theorem R_meanX {p : Int32} {c : Nat} {hh : Nat → Nat → Nat} (hM : isMd S) (h : rDat I) (hc : I 114 0 = nI c) (c6 : c ≤ 6) (H : rHh I c hh) : qMet E y_Md_mean b_Md_mean 2 (some .long) 9 0 0 [.ref (qb E + 114), .int p] S I J (fun u S' I' J' => ((u = some (.long (aMean (nF hh 0 (rWl I c)) p)) ∧ rU I I' J J') ∧ rW I I') ∧ RQ0 S I J (rT I) u S' I' J') := by
  refine (c_Md_meanX hM h.day hc c6 H).px (fun u S' I' J' hq => by obtain ⟨h, -, hs, hj⟩ := hq; exact ⟨⟨h, rU.ask hs hj⟩, rW.ask hs⟩) (fun v S' I' J' hq => ?_)
  obtain ⟨-, hS, hs, hj⟩ := hq
  exact RQ.ask h hS hs hj
end T9
