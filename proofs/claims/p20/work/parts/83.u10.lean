/-! days ahead, for both -/
theorem qmin_top {x : Int32} : qmin 2147483647 x = x := by
  unfold qmin
  by_cases h : x < 2147483647
  · rw [if_pos h]
  · rw [if_neg h]
    refine Int32.le_antisymm (Int32.not_lt.mp h) ?_
    rw [Int32.le_iff_toInt_le]
    have := Int32.toInt_lt x
    have e : (2147483647 : Int32).toInt = 2147483647 := rfl
    omega
theorem qmin99 {x : Int32} (h : x ≤ 99) : qmin 99 x = x := by
  unfold qmin
  by_cases y : x < 99
  · rw [if_pos y]
  · rw [if_neg y]; exact (Int32.le_antisymm h (Int32.not_lt.mp y)).symm
def xMo (K M : qI) (o p : Nat) : Prop := K (qm o p) 0 = nI p ∧ K (qm o p) 1 = M 115 p ∧ K (qm o p) 2 = M 116 p ∧ K (qm o p) 3 = M 117 p ∧ K (qm o p) 4 = M 118 p ∧ K (qm o p) 5 = M 119 p ∧ K (qm o p) 6 = M 120 p ∧ qbool (K (qm o p) 6) ∧ K (qm o p) 4 ≤ 99 ∧ ∀ r, r < 4 → K (qm o p + 1) r = M 121 (4 * p + r)
def xDo (K M : qI) (o w : Nat) : Prop := ∃ c l dd : Nat, c ≤ 6 ∧ l ≤ 6 ∧ K o 1 = nI c ∧ M 114 0 = nI c ∧ K o 3 = nI l ∧ M 114 8 = nI l ∧ K o 4 = nI dd ∧ M 114 10 = nI dd ∧ dd < 2 ^ 30 ∧ xIl K M w (M 114 18) ∧ (∀ i, i < l → ∃ p, p < c ∧ K (o + 2) i = nI p ∧ M 122 i = nI p) ∧ ∀ p, p < c → xMo K M o p
theorem xDo.has {K M : qI} {o w : Nat} (h : xDo K M o w) : qhas K o w = mtod M ∧ (mtod M = -5 ∨ ∃ p, (∃ c, K o 1 = nI c ∧ c ≤ 6 ∧ p < c) ∧ mtod M = nI p) := by
  obtain ⟨c, l, dd, c6, l6, hc, hc', hl, hl', hd, hd', hdd, hil, hls, hp⟩ := h
  unfold qhas mtod
  rw [x_lost hil, hd, hd', hl, hl', qcl (by omega)]
  by_cases q : qlost (mlost M) (nI dd) = 0
  · rw [if_pos q, if_pos q]
    have key : ∀ j, j ≤ l → qhasN (K (o + 2)) (fun k => qleft K o (K (o + 2) k)) l j = mtodN M l j ∧ (mtodN M l j = -5 ∨ ∃ p, p < c ∧ mtodN M l j = nI p) := by
      intro j
      induction j with
      | zero => intro _; exact ⟨rfl, Or.inl rfl⟩
      | succ j ih =>
        intro hj
        obtain ⟨ih1, ih2⟩ := ih (by omega)
        obtain ⟨p, p1, p2, p3⟩ := hls (l - (j + 1)) (by omega)
        obtain ⟨g0, -, -, -, -, -, g6, gb, -⟩ := hp p p1
        rw [qhasN, mtodN]
        rw [p3, qcl (by omega), ← g6]
        have lf : qleft K o (nI p) = if K (qm o p) 6 = 0 then 1 else 0 := by
          unfold qleft
          rw [if_neg (nI_pos (by omega) : ¬ nI p < 0), hc, if_neg (fun q2 => by
            have := (nI_leI (by omega) (by omega)).mp q2
            omega), qcl (by omega)]
        simp only [p2, lf]
        by_cases z : K (qm o p) 6 = 0
        · rw [if_pos z, if_pos z, if_neg (by decide)]
          exact ⟨rfl, Or.inr ⟨p, p1, rfl⟩⟩
        · rw [if_neg z, if_neg z, if_pos rfl]
          exact ⟨ih1, ih2⟩
    obtain ⟨k1, k2⟩ := key l (Nat.le_refl _)
    refine ⟨k1, ?_⟩
    rcases k2 with k2 | ⟨p, p1, p2⟩
    · exact Or.inl k2
    · exact Or.inr ⟨p, ⟨c, hc, c6, p1⟩, p2⟩
  · rw [if_neg q, if_neg q]; exact ⟨rfl, Or.inl rfl⟩
theorem x_goPsO {K M : qI} {o w c dd : Nat} {one : Int32} (c6 : c ≤ 6) (hd : K o 4 = nI dd) (hd' : M 114 10 = nI dd) (hdd : dd < 2 ^ 30) (hw : qApart o w) (hil : xIl K M w (M 114 18)) (hp : ∀ p, p < c → xMo K M o p) : ∀ m, m ≤ c → (∀ a, (∀ p, p < m → a ≠ qm o p) → qgoPs K o w one 2147483647 m a = K a) ∧ (∀ a, a ≠ 118 → a ≠ 119 → mgoPs M one m a = M a) ∧ (∀ p, m ≤ p → mgoPs M one m 118 p = M 118 p ∧ mgoPs M one m 119 p = M 119 p) ∧ ∀ p, p < m → (∀ j, j < 4 → qgoPs K o w one 2147483647 m (qm o p) j = K (qm o p) j) ∧ qgoPs K o w one 2147483647 m (qm o p) 4 = mgoPs M one m 118 p ∧ qgoPs K o w one 2147483647 m (qm o p) 5 = mgoPs M one m 119 p ∧ qgoPs K o w one 2147483647 m (qm o p) 6 = (if nI p = one then 1 else K (qm o p) 6) ∧ qgoPs K o w one 2147483647 m (qm o p) 4 ≤ 99 := by
  unfold qApart at hw
  intro m
  induction m with
  | zero => intro _; exact ⟨fun a _ => rfl, fun a _ _ => rfl, fun p _ => ⟨rfl, rfl⟩, fun p hp => absurd hp (Nat.not_lt_zero _)⟩
  | succ m ih =>
    intro hm
    obtain ⟨a1, a2, a3, a4⟩ := ih (by omega)
    obtain ⟨g0, g1, g2, g3, g4, g5, g6, gb, gw, gr⟩ := hp m (by omega)
    rw [qgoPs, mgoPs]
    have km : qgoPs K o w one 2147483647 m (qm o m) = K (qm o m) := a1 _ (fun p _ => by unfold qm; omega)
    have km1 : qgoPs K o w one 2147483647 m (qm o m + 1) = K (qm o m + 1) := a1 _ (fun p _ => by unfold qm; omega)
    have kw : ∀ b, b ≤ 3 → qgoPs K o w one 2147483647 m (w + b) = K (w + b) := fun b hb => a1 _ (fun p _ => by unfold qm; omega)
    have k6 : qgoPs K o w one 2147483647 m o = K o := a1 _ (fun p _ => by unfold qm; omega)
    obtain ⟨m118, m119⟩ := a3 m (Nat.le_refl m)
    generalize qgoPs K o w one 2147483647 m = K1 at *
    generalize mgoPs M one m = M1 at *
    have il1 : xIl K1 M1 w (M1 114 18) := by
      rw [a2 114 (by decide) (by decide)]
      exact hil.fr kw (fun a ha => a2 a (by omega) (by omega)) (by rw [a2 114 (by decide) (by decide)])
    have pn : qpain K1 w (qm o m) (nI dd) (K1 (qm o m) 4) = mpain M1 m (nI dd) (M1 118 m) := by
      have e4 : K1 (qm o m) 4 = M1 118 m := by rw [km, m118]; exact g4
      rw [e4]
      exact x_pain (by rw [km]; exact g0) (by rw [km, a2 115 (by decide) (by decide)]; exact g1) (by rw [km, a2 116 (by decide) (by decide)]; exact g2) (by rw [km, a2 117 (by decide) (by decide)]; exact g3) (fun r hr => by rw [km1, a2 121 (by decide) (by decide)]; exact gr r hr) il1 (by omega)
    have e5 : K1 (qm o m) 5 = M1 119 m := by rw [km, m119, ← g5]
    have e4 : K1 (qm o m) 4 = M1 118 m := by rw [km, m118]; exact g4
    have old : ∀ (K2 M2 : qI), (∀ a, a ≠ qm o m → K2 a = K1 a) → (∀ a j, (a = 118 ∨ a = 119) → j ≠ m → M2 a j = M1 a j) → (∀ a, a ≠ 118 → a ≠ 119 → M2 a = M1 a) → ((∀ j, j < 4 → K2 (qm o m) j = K (qm o m) j) ∧ K2 (qm o m) 4 = M2 118 m ∧ K2 (qm o m) 5 = M2 119 m ∧ K2 (qm o m) 6 = (if nI m = one then 1 else K (qm o m) 6) ∧ K2 (qm o m) 4 ≤ 99) → (∀ a, (∀ p, p < m + 1 → a ≠ qm o p) → K2 a = K a) ∧ (∀ a, a ≠ 118 → a ≠ 119 → M2 a = M a) ∧ (∀ p, m + 1 ≤ p → M2 118 p = M 118 p ∧ M2 119 p = M 119 p) ∧ ∀ p, p < m + 1 → (∀ j, j < 4 → K2 (qm o p) j = K (qm o p) j) ∧ K2 (qm o p) 4 = M2 118 p ∧ K2 (qm o p) 5 = M2 119 p ∧ K2 (qm o p) 6 = (if nI p = one then 1 else K (qm o p) 6) ∧ K2 (qm o p) 4 ≤ 99 := by
      intro K2 M2 r1 r2 r3 hmm
      refine ⟨fun a ha => by rw [r1 a (ha m (by omega)), a1 a (fun p hp => ha p (by omega))], fun a b1 b2 => by rw [r3 a b1 b2, a2 a b1 b2], fun p hp => ⟨by rw [r2 118 p (by omega) (by omega)]; exact (a3 p (by omega)).1, by rw [r2 119 p (by omega) (by omega)]; exact (a3 p (by omega)).2⟩, fun p hp => ?_⟩
      by_cases q : p = m
      · subst q; exact hmm
      · obtain ⟨b1, b2, b3, b4, b5⟩ := a4 p (by omega)
        have e : K2 (qm o p) = K1 (qm o p) := r1 _ (by unfold qm; omega)
        rw [e, r2 118 p (by omega) q, r2 119 p (by omega) q]
        exact ⟨b1, b2, b3, b4, b5⟩
    unfold qgoP mgoP
    by_cases q1 : nI m = one
    · rw [if_pos q1, if_pos q1]
      refine old _ _ (fun a ha => qup_row ha) (fun _ _ _ _ => rfl) (fun _ _ _ => rfl) ⟨fun j hj => by rw [qup_j (by omega), km], by rw [qup_j (by decide)]; exact e4, by rw [qup_j (by decide)]; exact e5, by rw [qup_at, if_pos q1], by rw [qup_j (by decide), km]; exact gw⟩
    · rw [if_neg q1, if_neg q1]
      have e6 : K1 (qm o m) 6 = M1 120 m := by rw [km, a2 120 (by decide) (by decide)]; exact g6
      have b6 : qbool (K1 (qm o m) 6) := by rw [km]; exact gb
      by_cases q2 : K1 (qm o m) 6 = 0
      · rw [if_pos q2, if_neg (show ¬ M1 120 m = 1 from fun z => by rw [← e6, q2] at z; exact absurd z (by decide))]
        have pa : qpainAt K1 o w (qm o m) (nI 0) = mpain M1 m (M1 114 10) (M1 118 m) := by
          unfold qpainAt
          have z0 : nI 0 = (0 : Int32) := rfl
          rw [z0, Int32.add_zero, Int32.add_zero, k6, hd, qmin99 (by rw [km]; exact gw), pn, a2 114 (by decide) (by decide), hd']
        refine old _ _ (fun a ha => by rw [qup_row ha, qup_row ha]) (fun a j ha hj => by rw [qup_j hj, qup_j hj]) (fun a b1 b2 => by rw [qup_row b1, qup_row b2]) ⟨fun j hj => by rw [qup_j (by omega), qup_j (by omega), km], ?_, ?_, ?_, ?_⟩
        · rw [qup_at, qup_at, e4]
        · rw [qup_j (by decide), qup_at, qup_o (by decide), qup_at, pa, qmin_top, e5]
        · rw [qup_j (by decide), qup_j (by decide), if_neg q1, km]
        · rw [qup_at]; exact qmin_le
      · have q3 : M1 120 m = 1 := by
          rw [← e6]
          rcases b6 with z | z
          · exact absurd z q2
          · exact z
        rw [if_neg q2, if_pos q3]
        exact old _ _ (fun _ _ => rfl) (fun _ _ _ _ => rfl) (fun _ _ _ => rfl) ⟨fun j hj => by rw [km], e4, e5, by rw [if_neg q1, km], by rw [km]; exact gw⟩
theorem xDo.one {K M : qI} {o w : Nat} (hw : qApart o w) (h : xDo K M o w) (hb : ∃ d, K o 4 = nI d ∧ d + 1 < 2 ^ 30) : xDo (qgo1 K o w 2147483647) (mgo1 M) o w := by
  obtain ⟨hh, hone⟩ := h.has
  obtain ⟨c0, l, dd, c6, l6, hc, hc', hl, hl', hd, hd', hdd, hil, hls, hp⟩ := h
  obtain ⟨d1, e1, d1b⟩ := hb
  have ed : d1 = dd := (nI_eq (by omega) (by omega)).mp (e1.symm.trans hd)
  subst ed
  obtain ⟨a1, a2, a3, a4⟩ := x_goPsO (one := mtod M) c6 hd hd' hdd hw hil hp c0 (Nat.le_refl _)
  unfold qApart at hw
  have eK : qgo1 K o w 2147483647 = qup (qgoPs K o w (mtod M) 2147483647 c0) o 4 (nI (d1 + 1)) := by
    unfold qgo1; rw [hh, hc, qcl (by omega), hd, q1]
  have eM : mgo1 M = qup (if mtod M = -5 then mgoPs M (mtod M) c0 else qup (mgoPs M (mtod M) c0) 120 (mtod M).toNatClampNeg 1) 114 10 (nI (d1 + 1)) := by
    unfold mgo1; rw [hc', qcl (by omega), hd', q1]
  rw [eK, eM]
  have b120 : ∀ p, p < c0 → (if mtod M = -5 then mgoPs M (mtod M) c0 else qup (mgoPs M (mtod M) c0) 120 (mtod M).toNatClampNeg 1) 120 p = if nI p = mtod M then 1 else M 120 p := by
    intro p hpc
    have n5 : ∀ p, p < 6 → ¬ nI p = -5 := by decide
    rcases hone with q | ⟨p1, ⟨c1, hc1, c16, hp1⟩, q⟩
    · rw [if_pos q, if_neg (fun z => n5 p (by omega) (z.trans q)), a2 120 (by decide) (by decide)]
    · have : ¬ mtod M = -5 := fun z => by
        have e : c1 = c0 := (nI_eq (by omega) (by omega)).mp (hc1.symm.trans hc)
        exact n5 p1 (by omega) (q.symm.trans z)
      have e : c1 = c0 := (nI_eq (by omega) (by omega)).mp (hc1.symm.trans hc)
      rw [if_neg this, q, qcl (by omega)]
      by_cases z : p = p1
      · subst z; rw [qup_at, if_pos rfl]
      · rw [qup_j z, if_neg (fun y => z ((nI_eq (by omega) (by omega)).mp y)), ← q, a2 120 (by decide) (by decide)]
  have bo : ∀ a, a ≠ 120 → (if mtod M = -5 then mgoPs M (mtod M) c0 else qup (mgoPs M (mtod M) c0) 120 (mtod M).toNatClampNeg 1) a = mgoPs M (mtod M) c0 a := fun a ha => by
    split
    · rfl
    · rw [qup_row ha]
  generalize (if mtod M = -5 then mgoPs M (mtod M) c0 else qup (mgoPs M (mtod M) c0) 120 (mtod M).toNatClampNeg 1) = M3 at *
  generalize hM1 : mgoPs M (mtod M) c0 = M1 at *
  generalize qgoPs K o w (mtod M) 2147483647 c0 = K1 at *
  generalize mtod M = one at *
  have m1 : ∀ a, a ≠ 114 → qup M3 114 10 (nI (d1 + 1)) a = M3 a := fun a h2 => by rw [qup_row h2]
  have m114 : ∀ j, j ≠ 10 → qup M3 114 10 (nI (d1 + 1)) 114 j = M 114 j := fun j hj => by rw [qup_j hj, bo 114 (by decide), a2 114 (by decide) (by decide)]
  have mold : ∀ a, a ≠ 114 → a ≠ 118 → a ≠ 119 → a ≠ 120 → qup M3 114 10 (nI (d1 + 1)) a = M a := fun a h1 h2 h3 h4 => by rw [m1 a h1, bo a h4, a2 a h2 h3]
  have k6 : K1 o = K o := a1 o (fun p _ => by unfold qm; omega)
  have kq : ∀ p, qup K1 o 4 (nI (d1 + 1)) (qm o p) = K1 (qm o p) := fun p => qup_row (by unfold qm; omega)
  refine ⟨c0, l, d1 + 1, c6, l6, ?_, ?_, ?_, ?_, qup_at, qup_at, d1b, ?_, fun i hi => ?_, fun p hpc => ?_⟩
  · rw [qup_j (by decide), k6]; exact hc
  · rw [m114 0 (by decide)]; exact hc'
  · rw [qup_j (by decide), k6]; exact hl
  · rw [m114 8 (by decide)]; exact hl'
  · rw [m114 18 (by decide)]
    refine hil.fr (fun b hb => by rw [qup_row (by omega), a1 (w + b) (fun p _ => by unfold qm; omega)]) (fun a ha => mold a (by omega) (by omega) (by omega) (by omega)) (m114 25 (by decide))
  · obtain ⟨p, p1, p2, p3⟩ := hls i hi
    exact ⟨p, p1, by rw [qup_row (by omega), a1 (o + 2) (fun p _ => by unfold qm; omega)]; exact p2, by rw [mold 122 (by decide) (by decide) (by decide) (by decide)]; exact p3⟩
  · obtain ⟨g0, g1, g2, g3, g4, g5, g6, gb, gw, gr⟩ := hp p hpc
    obtain ⟨b1, b2, b3, b4, b5⟩ := a4 p hpc
    unfold xMo
    rw [kq p]
    have k1r : qup K1 o 4 (nI (d1 + 1)) (qm o p + 1) = K (qm o p + 1) := by rw [qup_row (by unfold qm; omega), a1 _ (fun p' _ => by unfold qm; omega)]
    refine ⟨by rw [b1 0 (by omega)]; exact g0, by rw [b1 1 (by omega), mold 115 (by decide) (by decide) (by decide) (by decide)]; exact g1, by rw [b1 2 (by omega), mold 116 (by decide) (by decide) (by decide) (by decide)]; exact g2, by rw [b1 3 (by omega), mold 117 (by decide) (by decide) (by decide) (by decide)]; exact g3, ?_, ?_, ?_, ?_, b5, fun r hr => by rw [k1r, mold 121 (by decide) (by decide) (by decide) (by decide)]; exact gr r hr⟩
    · rw [b2, m1 118 (by decide), bo 118 (by decide)]
    · rw [b3, m1 119 (by decide), bo 119 (by decide)]
    · rw [b4, m1 120 (by decide), b120 p hpc, g6]
    · rw [b4]; split
      · exact Or.inr rfl
      · exact gb
theorem qgoN_d {K : qI} {o w d0 : Nat} {most : Int32} (hd : K o 4 = nI d0) : ∀ k, qgoN K o w most k o 4 = nI (d0 + k) := by
  intro k
  induction k with
  | zero => exact hd
  | succ k ih =>
    rw [qgoN]
    unfold qgo1
    rw [qup_at, ih, q1]; rfl
theorem xDo.days {K M : qI} {o w d0 : Nat} (hw : qApart o w) (h : xDo K M o w) (hd : K o 4 = nI d0) : ∀ k, d0 + k < 2 ^ 30 → xDo (qgoN K o w 2147483647 k) (mgoN M k) o w := by
  intro k
  induction k with
  | zero => intro _; exact h
  | succ k ih =>
    intro hk
    rw [qgoN, mgoN]
    exact (ih (by omega)).one hw ⟨d0 + k, qgoN_d hd k, by omega⟩
theorem kp_h4' {I : qI} {p : Nat} (hp : p < 6) : kp I p = I 115 p := by
  have := kp_115 (I := I) (k := p) (by omega)
  rwa [Nat.zero_add] at this
/-- as the living are, both set out -/
theorem uINV.start {S : qSh} {I M : qI} {J : qJ} {w : Nat} (g : uINV S I J) (hw : qR S 6 5 = some w) (hm : ∀ a, 114 ≤ a → a ≤ 147 → a ≠ 140 → M a = I a) : xDo (qmbec I 33 6) M 33 w ∧ qApart 33 w ∧ ∃ d, d ≤ 9999 ∧ qmbec I 33 6 33 4 = nI d := by
  have hq := g.1.1.w6 w (Or.inl hw)
  unfold qW1 at hq
  obtain ⟨⟨w0, w1, w2, bl, hC⟩, -, hr, t1, -⟩ := id g.1.1
  have hok : qMgOK I 6 9999 := hC.2.2.2.2.1
  have ap : qApM 33 6 := by unfold qApM; omega
  obtain ⟨a1, a2, a3, a4, a5, a6, a7, a8⟩ : xT (qmbec I 33 6) 33 (kp I) := t1.bec hok ap (fun _ _ => rfl)
  have vh : vH (qmbec I 33 6) 33 (kp I) := g.1.2.2.1.bec hok ap (fun _ _ _ => rfl)
  obtain ⟨c, c6, hc, l, l6, hl, hla, hlb, -⟩ := hr.lst
  have hc6 : qmbec I 33 6 33 1 = nI c := a1.symm.trans hc
  have hl6 : qmbec I 33 6 33 3 = nI l := a2.symm.trans hl
  obtain ⟨dd, d9, hd⟩ : ∃ d, d ≤ 9999 ∧ I 114 10 = nI d := by
    obtain ⟨n, h1, ⟨-, -, -, k4, -⟩, -⟩ := hr
    exact k4
  have hd6 : qmbec I 33 6 33 4 = nI dd := a3.symm.trans hd
  have m114 : M 114 = I 114 := hm 114 (by omega) (by omega) (by omega)
  refine ⟨⟨c, l, dd, c6, l6, hc6, by rw [m114]; exact hc, hl6, by rw [m114]; exact hl, hd6, by rw [m114]; exact hd, by omega, ?_, fun i hi => ?_, fun p hp => ?_⟩, by unfold qApart; omega, dd, d9, hd6⟩
  · rw [m114]
    exact (g.1.2.1 w hw).fr (fun b hb => qmbec_row hok (by omega)) (fun a ha => hm a (by omega) (by omega) (by omega)) (by rw [m114])
  · obtain ⟨p, p1, p2⟩ := hla i hi
    have := a8 l i l6 hl6 hi
    rw [kp_122 (by omega)] at this
    exact ⟨p, p1, this.symm.trans p2, by rw [hm 122 (by omega) (by omega) (by omega)]; exact p2⟩
  · obtain ⟨b1, b0, b2⟩ := a7 c p c6 hc6 hp
    obtain ⟨h3, h4, h5, h6, h7, -, h9⟩ := vh c p c6 hc6 hp
    obtain ⟨g1, g2, g3, g4⟩ := kp_h4 (I := I) (p := p) (by omega)
    rw [kp_h4' (by omega)] at b1
    rw [kp_116 (by omega)] at b0
    rw [g1] at h3
    rw [g2] at h4
    rw [g3] at h5
    rw [g4] at h6
    unfold xMo
    rw [hm 115 (by omega) (by omega) (by omega), hm 116 (by omega) (by omega) (by omega), hm 117 (by omega) (by omega) (by omega), hm 118 (by omega) (by omega) (by omega), hm 119 (by omega) (by omega) (by omega), hm 120 (by omega) (by omega) (by omega), hm 121 (by omega) (by omega) (by omega)]
    exact ⟨(n33.bec hok p (by omega)).trans (g.2.2.2 p (by omega)), b1.symm, b0.symm, h3.symm, h4.symm, h5.symm, h6.symm, h7, h9, fun r hr' => by have := b2 r hr'; rw [kp_121 (by omega)] at this; exact this.symm⟩
theorem xDo.sums {K M : qI} {o w c : Nat} (h : xDo K M o w) (hc : M 114 0 = nI c) (c6 : c ≤ 6) : qhurts K o = qsumP (M 119) c ∧ qdones K o = qsumP (M 120) c ∧ K o 1 = nI c ∧ ∀ p, p < c → xMo K M o p := by
  obtain ⟨c', l, dd, c6', l6, hk, hc', -, -, -, -, -, -, -, hp⟩ := h
  have e : c' = c := (nI_eq (by omega) (by omega)).mp (hc'.symm.trans hc)
  subst e
  unfold qhurts qdones
  rw [hk, qcl (by omega)]
  refine ⟨qsumP_cg c' (fun p hpc => ?_), qsumP_cg c' (fun p hpc => ?_), rfl, hp⟩
  · obtain ⟨-, -, -, -, -, g5, -⟩ := hp p hpc
    exact g5
  · obtain ⟨-, -, -, -, -, -, g6, gb, -⟩ := hp p hpc
    rw [← g6]
    unfold qbit
    rcases gb with q | q
    · rw [q, if_pos rfl]
    · rw [q, if_neg (by decide)]
theorem aTurn_cg {f f2 : Nat → Int32} : ∀ r k, (∀ j, k ≤ j → j < k + r → f j = f2 j) → aTurn f r k = aTurn f2 r k := by
  intro r
  induction r with
  | zero => intro k _; rfl
  | succ r ih =>
    intro k h
    rw [aTurn, aTurn, h k (Nat.le_refl _) (by omega), ih (k + 1) (fun j h1 h2 => h j (by omega) (by omega))]
/-! looked, told exactly; the reference's asks, told exactly -/
def ca_looked (I : qI) (c z : Nat) : Int32 := aTurn (fun k => if ¬ qwithin (I 18 k) 0 (nI c - 1) = 0 ∧ ¬ I (qm 6 (I 18 k).toNatClampNeg) 5 = I 19 k then 1 else 0) z 0
def ga_looked (I : qI) (z : Nat) : Int32 := aTurn (fun k => if I 119 (I 136 k).toNatClampNeg = I 137 k then 0 else 1) z 0
section U12
variable {E : qE} {S : qSh} {I : qI} {J : qJ} {w0 w1 w2 bl : Nat}
theorem c_On_lookedX {c z : Nat} (hO : isOn S w0 w1 w2 bl) (hc : I 6 1 = nI c) (hc6 : c ≤ 6) (hz : I 17 3 = nI z) (hz8 : z ≤ 8) : qMet E y_On_looked b_On_looked 3 (some .int) 2 0 0 [.ref (qb E + 0)] S I J (qPi S I J (ca_looked I c z)) := by
  have hO0 := hO
  obtain ⟨oT, oR0, oR1, oR2, oR3, oR5, oR6, oR8, oR9, oR10, hI1, hN, hA, hM3, hRe, hBl, hRo, hAc, tA, tR, tT⟩ := hO
  have hN0 := hN
  obtain ⟨mT, mA1, mA2, mR0, mR2, mR5, mR6, mR7, mR8, nS, nP, nB, nI0, mRp, mMp⟩ := hN
  obtain ⟨nT, nA1, nA2, nA3, nR0, nR1, nR2⟩ := nB
  have hz' : I (6 + 11) 3 = nI z := hz
  generalize hR : ca_looked I c z = R
  unfold ca_looked at hR
  refine qMet.of (L := [some (.ref (qb E + 0)), none, none]) (by decide +kernel) (Nat.le_of_ble_eq_true rfl) rfl ?_
  have key := qfor (P := fun k => aTurn (fun k => if ¬ qwithin (I 18 k) 0 (nI c - 1) = 0 ∧ ¬ I (qm 6 (I 18 k).toNatClampNeg) 5 = I 19 k then 1 else 0) (z - k) k = R → qW E y_On_looked b_On_looked (some .int) 2 0 0 (qPi S I J R) 0 0 2 [some (.ref (qb E + 0)), some (.int (nI k)), none] [] S I J) z ?_ ?_ 0 (by omega)
  · refine r_iconst (pc := 0) (v := 0) d_On_looked_0 rfl ?_
    refine sti_n_3_1 (pc := 1) d_On_looked_1 rfl ?_
    exact key hR
  · intro hj
    rw [Nat.sub_self] at hj
    refine ldi_n_3_1 (pc := 2) d_On_looked_2 ?_
    refine lda_n_3_0 (pc := 3) d_On_looked_3 ?_
    refine g_On_23 (pc := 4) rfl d_On_looked_4 (by assumption) (by assumption) ?_
    refine g_On_238 (pc := 7) rfl d_On_looked_7 (by assumption) (by assumption) ?_
    refine g_On_205 (pc := 10) rfl d_On_looked_10 (by assumption) ?_
    rw [hz']
    refine r_icmp_ge (pc := 13) (tgt := 72) d_On_looked_13 (by decide) (fun c1 => ?_) (fun c1 => ?_)
    · refine r_bipush (pc := 72) (v := (-5)) d_On_looked_72 rfl ?_
      exact r_iret d_On_looked_74 rfl (by omega) (by omega) (⟨by rw [← hj]; rfl, rfl, rfl, rfl⟩)
    · exact absurd (nI_le (Nat.le_refl _) (by omega)) c1
  · intro k hk ih hj
    rw [show z - k = (z - (k + 1)) + 1 by omega, aTurn] at hj
    have ek : (nI k).toNatClampNeg = k := qcl (by omega)
    have nxt : (¬ (¬ qwithin (I 18 k) 0 (nI c - 1) = 0 ∧ ¬ I (qm 6 (I 18 k).toNatClampNeg) 5 = I 19 k)) → ∀ b : Int32, qW E y_On_looked b_On_looked (some .int) 2 0 0 (qPi S I J R) 0 0 66 [some (.ref (qb E + 0)), some (.int (nI k)), some (.int b)] [] S I J := by
      intro hb b
      rw [if_neg hb, if_pos rfl] at hj
      refine inc_3_1 (pc := 66) (w := 1) d_On_looked_66 rfl rfl ?_
      refine r_goto (pc := 69) (tgt := 2) d_On_looked_69 (by decide) ?_
      rw [q1]
      exact qW.forget 2 (ih hj)
    have hin1 : vp_in (nI k) 8 := vp_in_nI (by omega) (by omega)
    refine ldi_n_3_1 (pc := 2) d_On_looked_2 ?_
    refine lda_n_3_0 (pc := 3) d_On_looked_3 ?_
    refine g_On_23 (pc := 4) rfl d_On_looked_4 (by assumption) (by assumption) ?_
    refine g_On_238 (pc := 7) rfl d_On_looked_7 (by assumption) (by assumption) ?_
    refine g_On_205 (pc := 10) rfl d_On_looked_10 (by assumption) ?_
    rw [hz']
    refine r_icmp_ge (pc := 13) (tgt := 72) d_On_looked_13 (by decide) (fun c1 => ?_) (fun c1 => ?_)
    · exact absurd c1 (nI_ge hk (by omega))
    · refine lda_n_3_0 (pc := 16) d_On_looked_16 ?_
      refine g_On_23 (pc := 17) rfl d_On_looked_17 (by assumption) (by assumption) ?_
      refine g_On_238 (pc := 20) rfl d_On_looked_20 (by assumption) (by assumption) ?_
      refine g_On_241 (pc := 23) rfl d_On_looked_23 (by assumption) (by assumption) ?_
      refine ldi_n_3_1 (pc := 26) d_On_looked_26 ?_
      refine r_iald (pc := 27) d_On_looked_27 (by assumption) (by first | assumption | exact vp_in_nI (by omega) (by omega) | (unfold vp_in; decide)) ?_
      refine sti_n_3_2 (pc := 28) d_On_looked_28 rfl ?_
      refine lda_n_3_0 (pc := 29) d_On_looked_29 ?_
      refine ldi_n_3_2 (pc := 30) d_On_looked_30 ?_
      rw [ek]
      have e18 : I (6 + 11 + 1) k = I 18 k := rfl
      have e19 : I (6 + 11 + 2) k = I 19 k := rfl
      rw [e18]
      generalize I 18 k = x at *
      refine r_callV (pc := 31) (As := [.int x]) (k := 8) (N := 11) (T := T_On) k_On_82 im_On_isMourner se_On_isMourner rfl (by decide) rfl (by decide) d_On_looked_31 (by assumption) (c_On_isMourner hO0) rfl (Nat.le_of_ble_eq_true rfl) (by omega) (by omega) (by omega) (fun v S' I' J' hq => ?_)
      obtain ⟨rfl, rfl, rfl, rfl⟩ := hq
      rw [hc]
      refine r_if_eq (pc := 34) (tgt := 66) d_On_looked_34 (by decide) (fun c2 => ?_) (fun c2 => ?_)
      · exact nxt (fun q => q.1 c2) x
      · obtain ⟨p, hp, rfl⟩ := qisM_y (by omega) c2
        have hin : vp_in (nI p) 6 := vp_in_nI (by omega) (by omega)
        have hRc : qR S (6 + 1) (nI p).toNatClampNeg = some (qm 6 p) := by rw [qcl (by omega)]; exact mRp p (by omega)
        have hMT : qT S (qm 6 p) 2 := (mMp p (by omega)).1
        refine lda_n_3_0 (pc := 37) d_On_looked_37 ?_
        refine g_On_23 (pc := 38) rfl d_On_looked_38 (by assumption) (by assumption) ?_
        refine g_On_72 (pc := 41) rfl d_On_looked_41 (by assumption) (by assumption) ?_
        refine ldi_n_3_2 (pc := 44) d_On_looked_44 ?_
        refine r_aald14 (pc := 45) d_On_looked_45 (by assumption) (by first | assumption | exact vp_in_nI (by omega) (by omega) | (unfold vp_in; decide)) (by assumption) ?_
        refine g_On_98 (pc := 46) rfl d_On_looked_46 (by assumption) ?_
        refine lda_n_3_0 (pc := 49) d_On_looked_49 ?_
        refine g_On_23 (pc := 50) rfl d_On_looked_50 (by assumption) (by assumption) ?_
        refine g_On_238 (pc := 53) rfl d_On_looked_53 (by assumption) (by assumption) ?_
        refine g_On_244 (pc := 56) rfl d_On_looked_56 (by assumption) (by assumption) ?_
        refine ldi_n_3_1 (pc := 59) d_On_looked_59 ?_
        refine r_iald (pc := 60) d_On_looked_60 (by assumption) (by first | assumption | exact vp_in_nI (by omega) (by omega) | (unfold vp_in; decide)) ?_
        rw [ek, e19]
        rw [qcl (n := p) (by omega)] at nxt hj
        refine r_icmp_eq (pc := 61) (tgt := 66) d_On_looked_61 (by decide) (fun c3 => ?_) (fun c3 => ?_)
        · exact nxt (fun q => q.2 c3) _
        · rw [if_pos (show ¬ qwithin (nI p) 0 (nI c - 1) = 0 ∧ ¬ I (qm 6 p) 5 = I 19 k from ⟨c2, c3⟩), if_neg (by decide)] at hj
          refine ldi_n_3_1 (pc := 64) d_On_looked_64 ?_
          exact r_iret d_On_looked_65 rfl (by omega) (by omega) (⟨by rw [← hj], rfl, rfl, rfl⟩)
theorem c_Md_lookedX {z : Nat} (hM : isMd S) (hz : I 114 34 = nI z) (hz8 : z ≤ 8) (hB : ∀ i, i < 8 → ∃ p, p < 6 ∧ I 136 i = nI p) : qMet E y_Md_looked b_Md_looked 2 (some .int) 0 0 0 [.ref (qb E + 114)] S I J (qPi S I J (ga_looked I z)) := by
  have hT := hM.1
  have f5 := hM.r 4 rfl
  have g5 := hM.a 4 rfl
  have f35 := hM.r 21 rfl
  have g35 := hM.a 21 rfl
  have f36 := hM.r 22 rfl
  have g36 := hM.a 22 rfl
  generalize hR : ga_looked I z = R
  unfold ga_looked at hR
  refine qMet.of (L := [some (.ref (qb E + 114)), none]) (by decide +kernel) (Nat.le_of_ble_eq_true rfl) rfl ?_
  refine r_iconst (pc := 0) (v := 0) d_Md_looked_0 rfl ?_
  refine sti_n_2_1 (pc := 1) d_Md_looked_1 rfl ?_
  rw [q0]
  have key : ∀ k, k ≤ z → aTurn (fun k => if I 119 (I 136 k).toNatClampNeg = I 137 k then 0 else 1) (z - k) k = R → qW E y_Md_looked b_Md_looked (some .int) 0 0 0 (qPi S I J R) 0 0 2 [some (.ref (qb E + 114)), some (.int (nI k))] [] S I J := by
    refine qfor z ?_ ?_
    · intro hj
      rw [Nat.sub_self] at hj
      refine ldi_n_2_1 (pc := 2) d_Md_looked_2 ?_
      refine lda_n_2_0 (pc := 3) d_Md_looked_3 ?_
      refine g_Md_336 (pc := 4) rfl d_Md_looked_4 (by assumption) ?_
      rw [hz]
      refine r_icmp_ge (pc := 7) (tgt := 38) d_Md_looked_7 (by decide) (fun cc => ?_) (fun cc => ?_)
      · refine r_bipush (pc := 38) (v := (-5)) d_Md_looked_38 rfl ?_
        exact r_iret d_Md_looked_40 rfl (by omega) (by omega) (⟨by rw [← hj]; rfl, rfl, rfl, rfl⟩)
      · exact absurd (nI_le (Nat.le_refl z) (by omega)) cc
    · intro k hk ih hj
      obtain ⟨p, hp, ep⟩ := hB k (by omega)
      have hin : vp_in (nI p) 6 := vp_in_nI hp (by omega)
      rw [show z - k = (z - (k + 1)) + 1 by omega, aTurn, ep, qcl (n := p) (by omega)] at hj
      refine ldi_n_2_1 (pc := 2) d_Md_looked_2 ?_
      refine lda_n_2_0 (pc := 3) d_Md_looked_3 ?_
      refine g_Md_336 (pc := 4) rfl d_Md_looked_4 (by assumption) ?_
      rw [hz]
      refine r_icmp_ge (pc := 7) (tgt := 38) d_Md_looked_7 (by decide) (fun cc => ?_) (fun cc => ?_)
      · exact absurd cc (nI_ge hk (by omega))
      · refine lda_n_2_0 (pc := 10) d_Md_looked_10 ?_
        refine g_Md_24 (pc := 11) rfl d_Md_looked_11 (by assumption) (by assumption) ?_
        refine lda_n_2_0 (pc := 14) d_Md_looked_14 ?_
        refine g_Md_76 (pc := 15) rfl d_Md_looked_15 (by assumption) (by assumption) ?_
        refine ldi_n_2_1 (pc := 18) d_Md_looked_18 ?_
        refine r_iald (pc := 19) d_Md_looked_19 (by assumption) (by first | assumption | exact vp_in_nI (by omega) (by omega) | (unfold vp_in; decide)) ?_
        rw [qcl (n := k) (by omega), ep]
        refine r_iald (pc := 20) d_Md_looked_20 (by assumption) (by first | assumption | exact vp_in_nI (by omega) (by omega) | (unfold vp_in; decide)) ?_
        refine lda_n_2_0 (pc := 21) d_Md_looked_21 ?_
        refine g_Md_79 (pc := 22) rfl d_Md_looked_22 (by assumption) (by assumption) ?_
        refine ldi_n_2_1 (pc := 25) d_Md_looked_25 ?_
        refine r_iald (pc := 26) d_Md_looked_26 (by assumption) (by first | assumption | exact vp_in_nI (by omega) (by omega) | (unfold vp_in; decide)) ?_
        rw [qcl (n := k) (by omega), qcl (n := p) (by omega)]
        refine r_icmp_eq (pc := 27) (tgt := 32) d_Md_looked_27 (by decide) (fun c2 => ?_) (fun c2 => ?_)
        · rw [if_pos c2, if_pos rfl] at hj
          refine inc_2_1 (pc := 32) (w := 1) d_Md_looked_32 rfl rfl ?_
          refine r_goto (pc := 35) (tgt := 2) d_Md_looked_35 (by decide) ?_
          rw [q1]
          exact ih hj
        · rw [if_neg c2, if_neg (by decide)] at hj
          refine ldi_n_2_1 (pc := 30) d_Md_looked_30 ?_
          exact r_iret d_Md_looked_31 rfl (by omega) (by omega) (⟨by rw [← hj], rfl, rfl, rfl⟩)
  exact key 0 (by omega) hR
theorem K_lookedX (h : cINV S I J w0 w1 w2 bl) : qMet E y_On_looked b_On_looked 3 (some .int) 2 0 0 [.ref (qb E + 0)] S I J (fun u S' I' J' => (((∃ c z, c ≤ 6 ∧ I 6 1 = nI c ∧ z ≤ 8 ∧ I 17 3 = nI z ∧ u = some (.int (ca_looked I c z))) ∧ cU I I' J J') ∧ cW S S' I I') ∧ KQ0 S I J (cT I) u S' I' J') := by
  have h0 := h
  obtain ⟨hO, hZ, hN, ⟨e0, e1, e2, eb, s0, s2, s3⟩, hd⟩ := h
  obtain ⟨hok, hI0, hI2, hah, him, hig, hrd, hts, hh⟩ := id hd
  obtain ⟨c, hc6, hc⟩ := hok.1
  obtain ⟨z3, y3, x3⟩ := hok.2.2.2.2.2.1
  refine (c_On_lookedX hO hc hc6 x3 y3).px (fun u S' I' J' hq => ⟨(by obtain ⟨h, -, rfl, rfl⟩ := hq; exact ⟨⟨c, z3, hc6, hc, y3, x3, h⟩, cU.rf⟩), (by obtain ⟨-, rfl, rfl, -⟩ := hq; exact cW.rf)⟩) (fun v S' I' J' hq => ?_)
  obtain ⟨-, rfl, rfl, rfl⟩ := hq
  exact ⟨⟨_, _, _, _, h0⟩, id, fun _ _ _ => ⟨rfl, rfl⟩, rfl, rfl, rfl⟩
theorem R_lookedX (hM : isMd S) (h : rDat I) : qMet E y_Md_looked b_Md_looked 2 (some .int) 0 0 0 [.ref (qb E + 114)] S I J (fun u S' I' J' => (((∃ z, z ≤ 8 ∧ I 114 34 = nI z ∧ u = some (.int (ga_looked I z))) ∧ rU I I' J J') ∧ rW I I') ∧ RQ0 S I J (rT I) u S' I' J') := by
  obtain ⟨⟨z, z1, z2⟩, z3⟩ := h.book
  refine (c_Md_lookedX hM z2 z1 z3).px (fun u S' I' J' hq => by obtain ⟨h, -, rfl, rfl⟩ := hq; exact ⟨⟨⟨z, z1, z2, h⟩, rU.rf⟩, rW.rf⟩) (fun v S' I' J' hq => ?_)
  obtain ⟨-, rfl, rfl, rfl⟩ := hq
  exact ⟨rfl, h, fun a ha => ⟨rfl, rfl⟩, rfl, rfl, rfl⟩
theorem R_onX {n x : Int32} (hM : isMd S) (h : rDat I) : qMet E y_Md_on b_Md_on 4 (some .int) 5 0 0 [.ref (qb E + 114), .int n, .int x] S I J (fun u S' I' J' => (((∃ c, c ≤ 6 ∧ I 114 0 = nI c ∧ ∃ M, (∀ a, a ≠ 140 → M a = I a) ∧ u = some (.int (ga_on M c n x))) ∧ rU I I' J J') ∧ rW I I') ∧ RQ0 S I J (rT I) u S' I' J') := by
  obtain ⟨c, c6, hc⟩ := h.c
  refine (c_Md_onX hM h.day hc c6).px (fun u S' I' J' hq => by obtain ⟨h, -, hs, hj⟩ := hq; exact ⟨⟨⟨c, c6, hc, h⟩, rU.ask hs (fun b _ => by rw [← hj])⟩, rW.ask hs⟩) (fun v S' I' J' hq => ?_)
  obtain ⟨-, hS, hs, hj⟩ := hq
  exact RQ.ask h hS hs (fun b _ => by rw [← hj])
theorem R_turnX {x : Int32} (hM : isMd S) (h : rDat I) : qMet E y_Md_turn b_Md_turn 4 (some .int) 5 0 0 [.ref (qb E + 114), .int x] S I J (fun u S' I' J' => (((∃ c, c ≤ 6 ∧ I 114 0 = nI c ∧ ∃ M, (∀ a, a ≠ 140 → M a = I a) ∧ u = some (.int (ga_turn M c x))) ∧ rU I I' J J') ∧ rW I I') ∧ RQ0 S I J (rT I) u S' I' J') := by
  obtain ⟨c, c6, hc⟩ := h.c
  refine (c_Md_turnX hM h.day hc c6).px (fun u S' I' J' hq => by obtain ⟨h, -, hs, hj⟩ := hq; exact ⟨⟨⟨c, c6, hc, h⟩, rU.ask hs (fun b _ => by rw [← hj])⟩, rW.ask hs⟩) (fun v S' I' J' hq => ?_)
  obtain ⟨-, hS, hs, hj⟩ := hq
  exact RQ.ask h hS hs (fun b _ => by rw [← hj])
theorem R_emptyX (hM : isMd S) (h : rDat I) : qMet E y_Md_empty b_Md_empty 3 (some .int) 5 0 0 [.ref (qb E + 114)] S I J (fun u S' I' J' => (((∃ c, c ≤ 6 ∧ I 114 0 = nI c ∧ ∃ M, (∀ a, a ≠ 140 → M a = I a) ∧ u = some (.int (ga_empty M c))) ∧ rU I I' J J') ∧ rW I I') ∧ RQ0 S I J (rT I) u S' I' J') := by
  obtain ⟨c, c6, hc⟩ := h.c
  refine (c_Md_emptyX hM h.day hc c6).px (fun u S' I' J' hq => by obtain ⟨h, -, hs, hj⟩ := hq; exact ⟨⟨⟨c, c6, hc, h⟩, rU.ask hs (fun b _ => by rw [← hj])⟩, rW.ask hs⟩) (fun v S' I' J' hq => ?_)
  obtain ⟨-, hS, hs, hj⟩ := hq
  exact RQ.ask h hS hs (fun b _ => by rw [← hj])
theorem R_endsX {x : Int32} (hM : isMd S) (h : rDat I) : qMet E y_Md_ends b_Md_ends 4 (some .int) 5 0 0 [.ref (qb E + 114), .int x] S I J (fun u S' I' J' => (((∃ c z, c ≤ 6 ∧ I 114 0 = nI c ∧ z ≤ 10 ∧ I 114 31 = nI z ∧ ∃ M, (∀ a, a ≠ 140 → M a = I a) ∧ u = some (.int (ga_ends M c z x))) ∧ rU I I' J J') ∧ rW I I') ∧ RQ0 S I J (rT I) u S' I' J') := by
  obtain ⟨c, c6, hc⟩ := h.c
  obtain ⟨⟨z, z1, z2⟩, z3⟩ := h.plan
  refine (c_Md_endsX hM h.day hc c6 z2 z1 z3).px (fun u S' I' J' hq => by obtain ⟨h, -, hs, hj⟩ := hq; exact ⟨⟨⟨c, z, c6, hc, z1, z2, h⟩, rU.ask hs (fun b _ => by rw [← hj])⟩, rW.ask hs⟩) (fun v S' I' J' hq => ?_)
  obtain ⟨-, hS, hs, hj⟩ := hq
  exact RQ.ask h hS hs (fun b _ => by rw [← hj])
theorem R_canX {x w y : Int32} (hM : isMd S) (h : rDat I) : qMet E y_Md_can b_Md_can 8 (some .int) 5 0 0 [.ref (qb E + 114), .int x, .int w, .int y] S I J (fun u S' I' J' => (((∃ c z, c ≤ 6 ∧ I 114 0 = nI c ∧ z ≤ 5 ∧ I 114 27 = nI z ∧ u = some (.int (ga_can I c z x w y))) ∧ rU I I' J J') ∧ rW I I') ∧ RQ0 S I J (rT I) u S' I' J') := by
  obtain ⟨c, c6, hc⟩ := h.c
  obtain ⟨⟨z, z5, hz⟩, hs⟩ := h.seen
  refine (c_Md_canX hM h.day hc c6 hz z5 hs).px (fun u S' I' J' hq => by obtain ⟨h, -, hs, hj⟩ := hq; exact ⟨⟨⟨c, z, c6, hc, z5, hz, h⟩, rU.ask hs (fun b _ => by rw [← hj])⟩, rW.ask hs⟩) (fun v S' I' J' hq => ?_)
  obtain ⟨-, hS, hs, hj⟩ := hq
  exact RQ.ask h hS hs (fun b _ => by rw [← hj])
end U12
