/-! class and reference side by side: a mourner, days, the image -/
theorem kp_h4 {I : qI} {p : Nat} (hp : p < 6) : kp I (12 + p) = I 117 p ∧ kp I (18 + p) = I 118 p ∧ kp I (24 + p) = I 119 p ∧ kp I (30 + p) = I 120 p := ⟨kp_117 hp, kp_118 hp, kp_119 hp, kp_120 hp⟩
theorem vINV.mourner {S S1 S2 : qSh} {I I1 I2 : qI} {J J1 J2 : qJ} {T T2 : qI → Prop} {v v2 : Option Value} {kd vv gg : Int32} {c : Nat} (g : vINV S I J) (c6 : c ≤ 6) (hc : I 6 1 = nI c) (hI1 : I1 = cMournerI I c kd vv gg) (hJ1 : J1 = J) (cw : cW S S1 I I1) (hK : KQ0 S I J T v S1 I1 J1) (hI2 : I2 = gi_Md_mourner I1 J1 kd vv gg) (j2 : J2 = J1) (hV : RQ0 S1 I1 J1 T2 v2 S2 I2 J2) : vINV S2 I2 J2 := by
  have gx := g.1.mourner c6 hc hI1 hJ1 hK hI2 j2 hV
  have cf := hK.2.2.1
  have rf := hV.2.2.1
  have hc1 : I1 114 0 = nI c := by rw [(cf 114 (by omega) (by omega)).1]; exact g.1.2.2.2.1.1.trans hc
  unfold cMournerI at hI1
  unfold gi_Md_mourner at hI2
  rw [hc1] at hI2
  have idn : I1 = I → I2 = I1 → vINV S2 I2 J2 := fun h1 h2 => ⟨gx, g.still cw hK hV (by rw [h1]) (fun _ _ _ => by rw [h1]) (by rw [h1]) (fun _ _ _ _ => by rw [h1]) (by rw [h2]; exact rW.rf) (by rw [h2]) (fun _ _ _ => by rw [h2])⟩
  by_cases q0 : qwithin kd 0 6 = 0
  · rw [if_pos q0] at hI1 hI2; exact idn hI1 hI2
  rw [if_neg q0] at hI1 hI2
  by_cases q1 : qwithin vv 0 9 = 0
  · rw [if_pos q1] at hI1 hI2; exact idn hI1 hI2
  rw [if_neg q1] at hI1 hI2
  by_cases q2 : qwithin gg 0 99 = 0
  · rw [if_pos q2] at hI1 hI2; exact idn hI1 hI2
  rw [if_neg q2] at hI1 hI2
  by_cases q3 : c < 6
  · have n3 : ¬ nI c = 6 := fun w => by
      have := (nI_eq (by omega) (by omega)).mp (show nI c = nI 6 from w)
      omega
    rw [if_pos q3] at hI1
    rw [if_neg n3, q1k, qcl (n := c) (by omega)] at hI2
    have r1 : ∀ a, a ≠ 6 → a ≠ qm 6 c → a ≠ qm 6 c + 1 → I1 a = I a := fun a h1 h2 h3 => by
      rw [hI1, qup_row h1]; unfold qcomes
      rw [qfil_o h3, qup_row h2, qup_row h2, qup_row h2, qup_row h2, qup_row h2, qup_row h2]
    have k3 : I1 (qm 6 c) 3 = gg ∧ I1 (qm 6 c) 4 = 0 ∧ I1 (qm 6 c) 5 = 0 ∧ I1 (qm 6 c) 6 = 0 := by
      have e : ∀ j, I1 (qm 6 c) j = qup (qup (qup (qup (qup (qup I (qm 6 c) 1 kd) (qm 6 c) 2 vv) (qm 6 c) 3 gg) (qm 6 c) 4 0) (qm 6 c) 5 0) (qm 6 c) 6 0 (qm 6 c) j := fun j => by
        rw [hI1, qup_o (by unfold qm; omega)]; unfold qcomes
        rw [qfil_o (by omega)]
      refine ⟨?_, ?_, ?_, ?_⟩
      · rw [e, qup_j (by decide), qup_j (by decide), qup_j (by decide), qup_at]
      · rw [e, qup_j (by decide), qup_j (by decide), qup_at]
      · rw [e, qup_j (by decide), qup_at]
      · rw [e, qup_at]
    have e : ∀ a, a ≠ 114 → (a < 115 ∨ 121 < a) → I2 a = I1 a := fun a a1 a2 => by
      rw [hI2, qup_row a1, qup_row (by omega), qup_row (by omega), qup_row (by omega), qup_row (by omega), qup_row (by omega), qup_row (by omega), qup_row (by omega), qup_row (by omega), qup_row (by omega), qup_row (by omega)]
    have f : ∀ j, j ≠ 0 → I2 114 j = I1 114 j := fun j hj => by
      rw [hI2, qup_j hj, qup_o (by decide), qup_o (by decide), qup_o (by decide), qup_o (by decide), qup_o (by decide), qup_o (by decide), qup_o (by decide), qup_o (by decide), qup_o (by decide), qup_o (by decide)]
    have e117 : ∀ p, I2 117 p = if p = c then gg else I1 117 p := fun p => by
      rw [hI2, qup_o (by decide), qup_o (by decide), qup_o (by decide), qup_o (by decide), qup_o (by decide), qup_o (by decide), qup_o (by decide), qup_o (by decide)]
      by_cases w : p = c
      · subst w; rw [qup_at, if_pos rfl]
      · rw [qup_j w, if_neg w, qup_o (by decide), qup_o (by decide)]
    have e118 : ∀ p, I2 118 p = if p = c then 0 else I1 118 p := fun p => by
      rw [hI2, qup_o (by decide), qup_o (by decide), qup_o (by decide), qup_o (by decide), qup_o (by decide), qup_o (by decide), qup_o (by decide)]
      by_cases w : p = c
      · subst w; rw [qup_at, if_pos rfl]
      · rw [qup_j w, if_neg w, qup_o (by decide), qup_o (by decide), qup_o (by decide)]
    have e119 : ∀ p, I2 119 p = if p = c then 0 else I1 119 p := fun p => by
      rw [hI2, qup_o (by decide), qup_o (by decide), qup_o (by decide), qup_o (by decide), qup_o (by decide), qup_o (by decide)]
      by_cases w : p = c
      · subst w; rw [qup_at, if_pos rfl]
      · rw [qup_j w, if_neg w, qup_o (by decide), qup_o (by decide), qup_o (by decide), qup_o (by decide)]
    have e120 : ∀ p, I2 120 p = if p = c then 0 else I1 120 p := fun p => by
      rw [hI2, qup_o (by decide), qup_o (by decide), qup_o (by decide), qup_o (by decide), qup_o (by decide)]
      by_cases w : p = c
      · subst w; rw [qup_at, if_pos rfl]
      · rw [qup_j w, if_neg w, qup_o (by decide), qup_o (by decide), qup_o (by decide), qup_o (by decide), qup_o (by decide)]
    refine ⟨gx, g.gen cw hK hV (by rw [r1 0 (by omega) (by unfold qm; omega) (by unfold qm; omega)]) (fun a a1 a2 => r1 a (by omega) (by unfold qm; omega) (by unfold qm; omega)) ⟨f 18 (by decide), f 25 (by decide), fun a a1 a2 => e a (by omega) (by omega)⟩ (e 139 (by omega) (by omega)) (fun c' p hc' e' hp => ?_)⟩
    have b61 : I2 6 1 = nI (c + 1) := by rw [(rf 6 (by omega)).1, hI1, qup_at]
    have ec : c' = c + 1 := (nI_eq (by omega) (by omega)).mp (e'.symm.trans b61)
    obtain ⟨h1, h2, h3, h4⟩ := kp_h4 (I := I2) (p := p) (by omega)
    rw [h1, h2, h3, h4, (rf (qm 6 p) (by unfold qm; omega)).1, e117, e118, e119, e120]
    by_cases w : p = c
    · subst w
      obtain ⟨x1, x2, x3, x4⟩ := k3
      rw [if_pos rfl, if_pos rfl, if_pos rfl, if_pos rfl, x1, x2, x3, x4]
      exact ⟨rfl, rfl, rfl, rfl, Or.inl rfl, by decide, by decide⟩
    · obtain ⟨b1, b2, b3, b4, b5⟩ := g.2.2.1 c p c6 hc (by omega)
      obtain ⟨g1, g2, g3, g4⟩ := kp_h4 (I := I) (p := p) (by omega)
      rw [g1] at b1
      rw [g2] at b2
      rw [g3] at b3
      rw [g4] at b4
      rw [if_neg w, if_neg w, if_neg w, if_neg w, r1 (qm 6 p) (by unfold qm; omega) (by unfold qm; omega) (by unfold qm; omega), (cf 117 (by omega) (by omega)).1, (cf 118 (by omega) (by omega)).1, (cf 119 (by omega) (by omega)).1, (cf 120 (by omega) (by omega)).1]
      exact ⟨b1, b2, b3, b4, b5⟩
  · have n3 : nI c = 6 := by rw [show c = 6 by omega]; rfl
    rw [if_neg q3] at hI1
    rw [if_pos n3] at hI2
    exact idn hI1 hI2
/-- what a day asks, out of the ties -/
theorem vINV.dy {S : qSh} {I M : qI} {J : qJ} {w : Nat} (g : vINV S I J) (hw : qR S 6 5 = some w) (hm : ∀ a, 114 ≤ a → a ≤ 147 → M a = I a) : xDy I M w ∧ (w ≠ 6 ∧ (w + 3 < 6 ∨ 32 < w)) := by
  obtain ⟨⟨-, -, hr, t1, -, -, -, tn, -⟩, v1, v2, -⟩ := id g
  have hq := g.1.w6 w (Or.inl hw)
  unfold qW1 at hq
  obtain ⟨a1, a2, a3, a4, a5, a6, a7, a8⟩ := t1
  obtain ⟨c, c6, hc, l, l6, hl, hla, hlb, -⟩ := hr.lst
  have hc6 : I 6 1 = nI c := a1.symm.trans hc
  have hl6 : I 6 3 = nI l := a2.symm.trans hl
  obtain ⟨dd, d9, hd⟩ : ∃ d, d ≤ 9999 ∧ I 114 10 = nI d := by
    obtain ⟨n, h1, ⟨-, -, -, k4, -⟩, -⟩ := hr
    exact k4
  have hd6 : I 6 4 = nI dd := a3.symm.trans hd
  have m := fun a => hm a
  refine ⟨⟨c, l, dd, c6, l6, hc6, by rw [hm 114 (by omega) (by omega)]; exact hc, hl6, by rw [hm 114 (by omega) (by omega)]; exact hl, hd6, by rw [hm 114 (by omega) (by omega)]; exact hd, by omega, ?_, fun i hi => ?_, fun p hp => ?_⟩, by omega⟩
  · rw [hm 114 (by omega) (by omega)]
    exact (v1 w hw).fr (fun _ _ => rfl) (fun a ha => hm a (by omega) (by omega)) (by rw [hm 114 (by omega) (by omega)])
  · obtain ⟨p, p1, p2⟩ := hla i hi
    have := a8 l i l6 hl6 hi
    rw [kp_122 (by omega)] at this
    exact ⟨p, p1, this.symm.trans p2, by rw [hm 122 (by omega) (by omega)]; exact p2⟩
  · obtain ⟨b1, b0, b2⟩ := a7 c p c6 hc6 hp
    obtain ⟨h3, h4, h5, h6, h7, h8, h9⟩ := v2 c p c6 hc6 hp
    obtain ⟨g1, g2, g3, g4⟩ := kp_h4 (I := I) (p := p) (by omega)
    have x1 : kp I p = I 115 p := by have := kp_115 (I := I) (k := p) (by omega); rwa [Nat.zero_add] at this
    rw [x1] at b1
    rw [kp_116 (by omega)] at b0
    rw [g1] at h3
    rw [g2] at h4
    rw [g3] at h5
    rw [g4] at h6
    rw [hm 115 (by omega) (by omega), hm 116 (by omega) (by omega), hm 117 (by omega) (by omega), hm 118 (by omega) (by omega), hm 119 (by omega) (by omega), hm 120 (by omega) (by omega), hm 121 (by omega) (by omega)]
    exact ⟨tn.2.2 p (by omega), b1.symm, b0.symm, h3.symm, h4.symm, h5.symm, h6.symm, h7, h8, h9, fun r hr' => by have := b2 r hr'; rw [kp_121 (by omega)] at this; exact this.symm⟩
theorem vINV.pass {S S1 S2 : qSh} {I I1 I2 : qI} {J J1 J2 : qJ} {T T2 : qI → Prop} {v v2 : Option Value} {n : Int32} (g : vINV S I J) (pK : ∃ d w, d ≤ 9999 ∧ I 6 4 = nI d ∧ qW1 w ∧ qMgOK I 6 9999 ∧ v = some (.int (ca_pass I d n)) ∧ qEq (w + 4) (ci_pass I w d n) I1 ∧ J1 = J) (cw : cW S S1 I I1 ∧ ∃ d w, d ≤ 9999 ∧ I 6 4 = nI d ∧ qR S 6 5 = some w ∧ qEq (w + 4) (ci_pass I w d n) I1) (hK : KQ0 S I J T v S1 I1 J1) (pR : ∃ d, d ≤ 9999 ∧ I1 114 10 = nI d ∧ J1 = J2 ∧ (if qwithin n 0 60 = 0 then v2 = some (.int (-2)) ∧ I1 = I2 else if 9999 < nI d + n then v2 = some (.int (-3)) ∧ I1 = I2 else v2 = some (.int (nI d + n)) ∧ q130 (mpassN I1 n.toNatClampNeg) I2)) (hV : RQ0 S1 I1 J1 T2 v2 S2 I2 J2) : vINV S2 I2 J2 ∧ v = v2 := by
  obtain ⟨gx, ev⟩ := g.1.pass pK hK pR hV
  refine ⟨⟨gx, ?_⟩, ev⟩
  have cf := hK.2.2.1
  have rf := hV.2.2.1
  obtain ⟨cw, d, w, d9, hd, hw, he⟩ := cw
  obtain ⟨-, -, -, -, -, hok, -, -, -⟩ := pK
  obtain ⟨d', d9', hd', j2, hR⟩ := pR
  have hq := g.1.w6 w (Or.inl hw)
  unfold qW1 at hq
  have r1 : ∀ a, (a < 6 ∨ 32 < a) → a ≠ w + 4 → I1 a = I a := fun a ha h4 => by rw [he a h4, ci_pass_fr hok ha]
  have still : I1 = I2 → (∀ p, p < 6 → I1 (qm 6 p) = I (qm 6 p)) → I1 6 1 = I 6 1 → vTie S2 I2 := fun h2 hp h61 => g.still cw hK hV (by rw [r1 0 (by omega) (by omega)]) (fun a a1 a2 => r1 a (by omega) (by omega)) h61 (fun p j hp' _ => by rw [hp p hp']) (by rw [← h2]; exact rW.rf) (by rw [h2]) (fun _ _ _ => by rw [h2])
  have ci : ∀ a, a ≠ w + 4 → I1 a = ci_pass I w d n a := fun a ha => he a ha
  have hd1 : I1 114 10 = nI d := by rw [(cf 114 (by omega) (by omega)).1]; exact g.1.2.2.2.1.2.2.1.trans hd
  have ed : d' = d := (nI_eq (by omega) (by omega)).mp (hd'.symm.trans hd1)
  subst ed
  by_cases q0 : qwithin n 0 60 = 0
  · have c0 : ci_pass I w d' n = I := by unfold ci_pass; rw [if_pos q0]
    rw [if_pos q0] at hR
    exact still hR.2 (fun p hp => by rw [ci _ (by unfold qm; omega), c0]) (by rw [ci 6 (by omega), c0])
  rw [if_neg q0] at hR
  obtain ⟨g1, g2⟩ := qwithin_y q0
  obtain ⟨k, kk, rfl⟩ := nI_of2 (M := 60) (n := 60) rfl (Int32.not_lt.mpr g1) g2
  by_cases q1 : nI d' + nI k ≤ 9999
  · have c0 : ci_pass I w d' (nI k) = qgoN I 6 w 99999 k := by unfold ci_pass; rw [if_neg q0, if_pos q1, qcl (by omega)]
    rw [if_neg (Int32.not_lt.mpr q1), qcl (by omega)] at hR
    have h2 := hR.2
    obtain ⟨dy, hw6⟩ := g.dy (M := I1) hw (fun a a1 a2 => (cf a a1 a2).1)
    obtain ⟨c, l, dd, c6, l6, hc, hcM, -⟩ := id dy
    have after := dy.days hw6 hcM c6 hd k (by omega)
    have s : ∀ a, a ≠ 118 → a ≠ 119 → a ≠ 120 → a ≠ 114 → a ≠ 130 → I2 a = I1 a := fun a a1 a2 a3 a4 a5 => by rw [h2 a a5]; exact mpassN_row a1 a2 a3 a4 k
    have f : ∀ j, j ≠ 10 → I2 114 j = I1 114 j := fun j hj => by rw [h2 114 (by decide)]; exact mpassN_f hj k
    refine g.gen cw hK hV (by rw [r1 0 (by omega) (by omega)]) (fun a a1 a2 => r1 a (by omega) (by omega)) ⟨f 18 (by decide), f 25 (by decide), fun a a1 a2 => s a (by omega) (by omega) (by omega) (by omega) (by omega)⟩ (s 139 (by omega) (by omega) (by omega) (by omega) (by omega)) (fun c' p hc' e' hp => ?_)
    obtain ⟨c2, l2, dd2, c26, l26, hc2, -, -, -, -, -, -, -, -, hp2⟩ := after
    have e61 : I2 6 1 = nI c2 := by rw [(rf 6 (by omega)).1, ci 6 (by omega), c0]; exact hc2
    have ec : c' = c2 := (nI_eq (by omega) (by omega)).mp (e'.symm.trans e61)
    subst ec
    obtain ⟨-, -, -, x3, x4, x5, x6, x7, x8, x9, -⟩ := hp2 p hp
    obtain ⟨y1, y2, y3, y4⟩ := kp_h4 (I := I2) (p := p) (by omega)
    have eq : I2 (qm 6 p) = qgoN I 6 w 99999 k (qm 6 p) := by rw [(rf (qm 6 p) (by unfold qm; omega)).1, ci _ (by unfold qm; omega), c0]
    rw [y1, y2, y3, y4, eq, h2 117 (by decide), h2 118 (by decide), h2 119 (by decide), h2 120 (by decide)]
    exact ⟨x3.symm, x4.symm, x5.symm, x6.symm, x7, x8, x9⟩
  · have c0 : ci_pass I w d' (nI k) = I := by unfold ci_pass; rw [if_neg q0, if_neg q1]
    rw [if_pos (Int32.not_le.mp q1)] at hR
    exact still hR.2 (fun p hp => by rw [ci _ (by unfold qm; omega), c0]) (by rw [ci 6 (by omega), c0])
