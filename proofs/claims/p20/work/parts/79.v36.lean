/-! class and reference side by side: a mourner, days, the image -/
theorem kp_h4 {I : qI} {p : Nat} (hp : p < 6) : kp I (12 + p) = I 117 p ∧ kp I (18 + p) = I 118 p ∧ kp I (24 + p) = I 119 p ∧ kp I (30 + p) = I 120 p := ⟨kp_117 hp, kp_118 hp, kp_119 hp, kp_120 hp⟩
theorem vINV.mourner {S S1 S2 : qSh} {I I1 I2 : qI} {J J1 J2 : qJ} {T T2 : qI → Prop} {v v2 : Option Value} {kd vv gg : Int32} {c : Nat} (g : vINV S I J) (c6 : c ≤ 6) (hc : I 6 1 = nI c) (hI1 : I1 = cMournerI I c kd vv gg) (hJ1 : J1 = J) (cw : cW S S1 I I1) (hK : KQ0 S I J T v S1 I1 J1) (hI2 : I2 = gi_Md_mourner I1 J1 kd vv gg) (j2 : J2 = J1) (hV : RQ0 S1 I1 J1 T2 v2 S2 I2 J2) : vINV S2 I2 J2 := by
  have gx := g.1.mourner c6 hc hI1 hJ1 hK hI2 j2 hV
  have cf := hK.2.2.1
  have rf := hV.2.2.1
  have hc1 : I1 114 0 = nI c := by rw [(cf 114 (by omega) (by omega)).1]; exact g.1.2.2.2.1.1.trans hc
  unfold cMournerI at hI1
  unfold gi_Md_mourner at hI2
  rw [hc1] at hI2
  have idn : I1 = I → I2 = I1 → vINV S2 I2 J2 := fun h1 h2 => ⟨gx, g.still cw hK hV (by rw [h1]) (fun _ _ _ => by rw [h1]) (by rw [h1]) (fun _ _ _ _ => by rw [h1]) (by rw [h2]; exact rW.rf) (by rw [h2]) (fun _ _ _ => by rw [h2])⟩
  by_cases q0 : qwithin kd 0 6 = 0
  · rw [if_pos q0] at hI1 hI2; exact idn hI1 hI2
  rw [if_neg q0] at hI1 hI2
  by_cases q1 : qwithin vv 0 9 = 0
  · rw [if_pos q1] at hI1 hI2; exact idn hI1 hI2
  rw [if_neg q1] at hI1 hI2
  by_cases q2 : qwithin gg 0 99 = 0
  · rw [if_pos q2] at hI1 hI2; exact idn hI1 hI2
  rw [if_neg q2] at hI1 hI2
  by_cases q3 : c < 6
  · have n3 : ¬ nI c = 6 := fun w => by
      have := (nI_eq (by omega) (by omega)).mp (show nI c = nI 6 from w)
      omega
    rw [if_pos q3] at hI1
    rw [if_neg n3, q1k, qcl (n := c) (by omega)] at hI2
    have r1 : ∀ a, a ≠ 6 → a ≠ qm 6 c → a ≠ qm 6 c + 1 → I1 a = I a := fun a h1 h2 h3 => by
      rw [hI1, qup_row h1]; unfold qcomes
      rw [qfil_o h3, qup_row h2, qup_row h2, qup_row h2, qup_row h2, qup_row h2, qup_row h2]
    have k3 : I1 (qm 6 c) 3 = gg ∧ I1 (qm 6 c) 4 = 0 ∧ I1 (qm 6 c) 5 = 0 ∧ I1 (qm 6 c) 6 = 0 := by
      have e : ∀ j, I1 (qm 6 c) j = qup (qup (qup (qup (qup (qup I (qm 6 c) 1 kd) (qm 6 c) 2 vv) (qm 6 c) 3 gg) (qm 6 c) 4 0) (qm 6 c) 5 0) (qm 6 c) 6 0 (qm 6 c) j := fun j => by
        rw [hI1, qup_o (by unfold qm; omega)]; unfold qcomes
        rw [qfil_o (by omega)]
      refine ⟨?_, ?_, ?_, ?_⟩
      · rw [e, qup_j (by decide), qup_j (by decide), qup_j (by decide), qup_at]
      · rw [e, qup_j (by decide), qup_j (by decide), qup_at]
      · rw [e, qup_j (by decide), qup_at]
      · rw [e, qup_at]
    have e : ∀ a, a ≠ 114 → (a < 115 ∨ 121 < a) → I2 a = I1 a := fun a a1 a2 => by
      rw [hI2, qup_row a1, qup_row (by omega), qup_row (by omega), qup_row (by omega), qup_row (by omega), qup_row (by omega), qup_row (by omega), qup_row (by omega), qup_row (by omega), qup_row (by omega), qup_row (by omega)]
    have f : ∀ j, j ≠ 0 → I2 114 j = I1 114 j := fun j hj => by
      rw [hI2, qup_j hj, qup_o (by decide), qup_o (by decide), qup_o (by decide), qup_o (by decide), qup_o (by decide), qup_o (by decide), qup_o (by decide), qup_o (by decide), qup_o (by decide), qup_o (by decide)]
    have e117 : ∀ p, I2 117 p = if p = c then gg else I1 117 p := fun p => by
      rw [hI2, qup_o (by decide), qup_o (by decide), qup_o (by decide), qup_o (by decide), qup_o (by decide), qup_o (by decide), qup_o (by decide), qup_o (by decide)]
      by_cases w : p = c
      · subst w; rw [qup_at, if_pos rfl]
      · rw [qup_j w, if_neg w, qup_o (by decide), qup_o (by decide)]
    have e118 : ∀ p, I2 118 p = if p = c then 0 else I1 118 p := fun p => by
      rw [hI2, qup_o (by decide), qup_o (by decide), qup_o (by decide), qup_o (by decide), qup_o (by decide), qup_o (by decide), qup_o (by decide)]
      by_cases w : p = c
      · subst w; rw [qup_at, if_pos rfl]
      · rw [qup_j w, if_neg w, qup_o (by decide), qup_o (by decide), qup_o (by decide)]
    have e119 : ∀ p, I2 119 p = if p = c then 0 else I1 119 p := fun p => by
      rw [hI2, qup_o (by decide), qup_o (by decide), qup_o (by decide), qup_o (by decide), qup_o (by decide), qup_o (by decide)]
      by_cases w : p = c
      · subst w; rw [qup_at, if_pos rfl]
      · rw [qup_j w, if_neg w, qup_o (by decide), qup_o (by decide), qup_o (by decide), qup_o (by decide)]
    have e120 : ∀ p, I2 120 p = if p = c then 0 else I1 120 p := fun p => by
      rw [hI2, qup_o (by decide), qup_o (by decide), qup_o (by decide), qup_o (by decide), qup_o (by decide)]
      by_cases w : p = c
      · subst w; rw [qup_at, if_pos rfl]
      · rw [qup_j w, if_neg w, qup_o (by decide), qup_o (by decide), qup_o (by decide), qup_o (by decide), qup_o (by decide)]
    refine ⟨gx, g.gen cw hK hV (by rw [r1 0 (by omega) (by unfold qm; omega) (by unfold qm; omega)]) (fun a a1 a2 => r1 a (by omega) (by unfold qm; omega) (by unfold qm; omega)) ⟨f 18 (by decide), f 25 (by decide), fun a a1 a2 => e a (by omega) (by omega)⟩ (e 139 (by omega) (by omega)) (fun c' p hc' e' hp => ?_)⟩
    have b61 : I2 6 1 = nI (c + 1) := by rw [(rf 6 (by omega)).1, hI1, qup_at]
    have ec : c' = c + 1 := (nI_eq (by omega) (by omega)).mp (e'.symm.trans b61)
    obtain ⟨h1, h2, h3, h4⟩ := kp_h4 (I := I2) (p := p) (by omega)
    rw [h1, h2, h3, h4, (rf (qm 6 p) (by unfold qm; omega)).1, e117, e118, e119, e120]
    by_cases w : p = c
    · subst w
      obtain ⟨x1, x2, x3, x4⟩ := k3
      rw [if_pos rfl, if_pos rfl, if_pos rfl, if_pos rfl, x1, x2, x3, x4]
      exact ⟨rfl, rfl, rfl, rfl, Or.inl rfl, by decide, by decide⟩
    · obtain ⟨b1, b2, b3, b4, b5⟩ := g.2.2.1 c p c6 hc (by omega)
      obtain ⟨g1, g2, g3, g4⟩ := kp_h4 (I := I) (p := p) (by omega)
      rw [g1] at b1
      rw [g2] at b2
      rw [g3] at b3
      rw [g4] at b4
      rw [if_neg w, if_neg w, if_neg w, if_neg w, r1 (qm 6 p) (by unfold qm; omega) (by unfold qm; omega) (by unfold qm; omega), (cf 117 (by omega) (by omega)).1, (cf 118 (by omega) (by omega)).1, (cf 119 (by omega) (by omega)).1, (cf 120 (by omega) (by omega)).1]
      exact ⟨b1, b2, b3, b4, b5⟩
  · have n3 : nI c = 6 := by rw [show c = 6 by omega]; rfl
    rw [if_neg q3] at hI1
    rw [if_pos n3] at hI2
    exact idn hI1 hI2
/-- what a day asks, out of the ties -/
theorem vINV.dy {S : qSh} {I M : qI} {J : qJ} {w : Nat} (g : vINV S I J) (hw : qR S 6 5 = some w) (hm : ∀ a, 114 ≤ a → a ≤ 147 → M a = I a) : xDy I M w ∧ (w ≠ 6 ∧ (w + 3 < 6 ∨ 32 < w)) := by
  obtain ⟨⟨-, -, hr, t1, -, -, -, tn, -⟩, v1, v2, -⟩ := id g
  have hq := g.1.w6 w (Or.inl hw)
  unfold qW1 at hq
  obtain ⟨a1, a2, a3, a4, a5, a6, a7, a8⟩ := t1
  obtain ⟨c, c6, hc, l, l6, hl, hla, hlb, -⟩ := hr.lst
  have hc6 : I 6 1 = nI c := a1.symm.trans hc
  have hl6 : I 6 3 = nI l := a2.symm.trans hl
  obtain ⟨dd, d9, hd⟩ : ∃ d, d ≤ 9999 ∧ I 114 10 = nI d := by
    obtain ⟨n, h1, ⟨-, -, -, k4, -⟩, -⟩ := hr
    exact k4
  have hd6 : I 6 4 = nI dd := a3.symm.trans hd
  have m := fun a => hm a
  refine ⟨⟨c, l, dd, c6, l6, hc6, by rw [hm 114 (by omega) (by omega)]; exact hc, hl6, by rw [hm 114 (by omega) (by omega)]; exact hl, hd6, by rw [hm 114 (by omega) (by omega)]; exact hd, by omega, ?_, fun i hi => ?_, fun p hp => ?_⟩, by omega⟩
  · rw [hm 114 (by omega) (by omega)]
    exact (v1 w hw).fr (fun _ _ => rfl) (fun a ha => hm a (by omega) (by omega)) (by rw [hm 114 (by omega) (by omega)])
  · obtain ⟨p, p1, p2⟩ := hla i hi
    have := a8 l i l6 hl6 hi
    rw [kp_122 (by omega)] at this
    exact ⟨p, p1, this.symm.trans p2, by rw [hm 122 (by omega) (by omega)]; exact p2⟩
  · obtain ⟨b1, b0, b2⟩ := a7 c p c6 hc6 hp
    obtain ⟨h3, h4, h5, h6, h7, h8, h9⟩ := v2 c p c6 hc6 hp
    obtain ⟨g1, g2, g3, g4⟩ := kp_h4 (I := I) (p := p) (by omega)
    have x1 : kp I p = I 115 p := by have := kp_115 (I := I) (k := p) (by omega); rwa [Nat.zero_add] at this
    rw [x1] at b1
    rw [kp_116 (by omega)] at b0
    rw [g1] at h3
    rw [g2] at h4
    rw [g3] at h5
    rw [g4] at h6
    rw [hm 115 (by omega) (by omega), hm 116 (by omega) (by omega), hm 117 (by omega) (by omega), hm 118 (by omega) (by omega), hm 119 (by omega) (by omega), hm 120 (by omega) (by omega), hm 121 (by omega) (by omega)]
    exact ⟨tn.2.2 p (by omega), b1.symm, b0.symm, h3.symm, h4.symm, h5.symm, h6.symm, h7, h8, h9, fun r hr' => by have := b2 r hr'; rw [kp_121 (by omega)] at this; exact this.symm⟩
theorem vINV.pass {S S1 S2 : qSh} {I I1 I2 : qI} {J J1 J2 : qJ} {T T2 : qI → Prop} {v v2 : Option Value} {n : Int32} (g : vINV S I J) (pK : ∃ d w, d ≤ 9999 ∧ I 6 4 = nI d ∧ qW1 w ∧ qMgOK I 6 9999 ∧ v = some (.int (ca_pass I d n)) ∧ qEq (w + 4) (ci_pass I w d n) I1 ∧ J1 = J) (cw : cW S S1 I I1 ∧ ∃ d w, d ≤ 9999 ∧ I 6 4 = nI d ∧ qR S 6 5 = some w ∧ qEq (w + 4) (ci_pass I w d n) I1) (hK : KQ0 S I J T v S1 I1 J1) (pR : ∃ d, d ≤ 9999 ∧ I1 114 10 = nI d ∧ J1 = J2 ∧ (if qwithin n 0 60 = 0 then v2 = some (.int (-2)) ∧ I1 = I2 else if 9999 < nI d + n then v2 = some (.int (-3)) ∧ I1 = I2 else v2 = some (.int (nI d + n)) ∧ q130 (mpassN I1 n.toNatClampNeg) I2)) (hV : RQ0 S1 I1 J1 T2 v2 S2 I2 J2) : vINV S2 I2 J2 ∧ v = v2 := by
  obtain ⟨gx, ev⟩ := g.1.pass pK hK pR hV
  refine ⟨⟨gx, ?_⟩, ev⟩
  have cf := hK.2.2.1
  have rf := hV.2.2.1
  obtain ⟨cw, d, w, d9, hd, hw, he⟩ := cw
  obtain ⟨-, -, -, -, -, hok, -, -, -⟩ := pK
  obtain ⟨d', d9', hd', j2, hR⟩ := pR
  have hq := g.1.w6 w (Or.inl hw)
  unfold qW1 at hq
  have r1 : ∀ a, (a < 6 ∨ 32 < a) → a ≠ w + 4 → I1 a = I a := fun a ha h4 => by rw [he a h4, ci_pass_fr hok ha]
  have still : I1 = I2 → (∀ p, p < 6 → I1 (qm 6 p) = I (qm 6 p)) → I1 6 1 = I 6 1 → vTie S2 I2 := fun h2 hp h61 => g.still cw hK hV (by rw [r1 0 (by omega) (by omega)]) (fun a a1 a2 => r1 a (by omega) (by omega)) h61 (fun p j hp' _ => by rw [hp p hp']) (by rw [← h2]; exact rW.rf) (by rw [h2]) (fun _ _ _ => by rw [h2])
  have ci : ∀ a, a ≠ w + 4 → I1 a = ci_pass I w d n a := fun a ha => he a ha
  have hd1 : I1 114 10 = nI d := by rw [(cf 114 (by omega) (by omega)).1]; exact g.1.2.2.2.1.2.2.1.trans hd
  have ed : d' = d := (nI_eq (by omega) (by omega)).mp (hd'.symm.trans hd1)
  subst ed
  by_cases q0 : qwithin n 0 60 = 0
  · have c0 : ci_pass I w d' n = I := by unfold ci_pass; rw [if_pos q0]
    rw [if_pos q0] at hR
    exact still hR.2 (fun p hp => by rw [ci _ (by unfold qm; omega), c0]) (by rw [ci 6 (by omega), c0])
  rw [if_neg q0] at hR
  obtain ⟨g1, g2⟩ := qwithin_y q0
  obtain ⟨k, kk, rfl⟩ := nI_of2 (M := 60) (n := 60) rfl (Int32.not_lt.mpr g1) g2
  by_cases q1 : nI d' + nI k ≤ 9999
  · have c0 : ci_pass I w d' (nI k) = qgoN I 6 w 99999 k := by unfold ci_pass; rw [if_neg q0, if_pos q1, qcl (by omega)]
    rw [if_neg (Int32.not_lt.mpr q1), qcl (by omega)] at hR
    have h2 := hR.2
    obtain ⟨dy, hw6⟩ := g.dy (M := I1) hw (fun a a1 a2 => (cf a a1 a2).1)
    obtain ⟨c, l, dd, c6, l6, hc, hcM, -⟩ := id dy
    have after := dy.days hw6 hcM c6 hd k (by omega)
    have s : ∀ a, a ≠ 118 → a ≠ 119 → a ≠ 120 → a ≠ 114 → a ≠ 130 → I2 a = I1 a := fun a a1 a2 a3 a4 a5 => by rw [h2 a a5]; exact mpassN_row a1 a2 a3 a4 k
    have f : ∀ j, j ≠ 10 → I2 114 j = I1 114 j := fun j hj => by rw [h2 114 (by decide)]; exact mpassN_f hj k
    refine g.gen cw hK hV (by rw [r1 0 (by omega) (by omega)]) (fun a a1 a2 => r1 a (by omega) (by omega)) ⟨f 18 (by decide), f 25 (by decide), fun a a1 a2 => s a (by omega) (by omega) (by omega) (by omega) (by omega)⟩ (s 139 (by omega) (by omega) (by omega) (by omega) (by omega)) (fun c' p hc' e' hp => ?_)
    obtain ⟨c2, l2, dd2, c26, l26, hc2, -, -, -, -, -, -, -, -, hp2⟩ := after
    have e61 : I2 6 1 = nI c2 := by rw [(rf 6 (by omega)).1, ci 6 (by omega), c0]; exact hc2
    have ec : c' = c2 := (nI_eq (by omega) (by omega)).mp (e'.symm.trans e61)
    subst ec
    obtain ⟨-, -, -, x3, x4, x5, x6, x7, x8, x9, -⟩ := hp2 p hp
    obtain ⟨y1, y2, y3, y4⟩ := kp_h4 (I := I2) (p := p) (by omega)
    have eq : I2 (qm 6 p) = qgoN I 6 w 99999 k (qm 6 p) := by rw [(rf (qm 6 p) (by unfold qm; omega)).1, ci _ (by unfold qm; omega), c0]
    rw [y1, y2, y3, y4, eq, h2 117 (by decide), h2 118 (by decide), h2 119 (by decide), h2 120 (by decide)]
    exact ⟨x3.symm, x4.symm, x5.symm, x6.symm, x7, x8, x9⟩
  · have c0 : ci_pass I w d' (nI k) = I := by unfold ci_pass; rw [if_neg q0, if_neg q1]
    rw [if_pos (Int32.not_le.mp q1)] at hR
    exact still hR.2 (fun p hp => by rw [ci _ (by unfold qm; omega), c0]) (by rw [ci 6 (by omega), c0])
/-! class and reference side by side: the image, what comes back; what touches no hurt -/
theorem qbecN_h {I : qI} {o q : Nat} (hap : qApM o q) : ∀ n, n ≤ 6 → ∀ p, p < n → ∀ j, 3 ≤ j → j < 7 → qbecN I o q n (qm o p) j = I (qm q p) j := by
  intro n
  induction n with
  | zero => intro _ p hp; omega
  | succ n ih =>
    intro hn p hp j h1 h2
    have hap0 := hap
    unfold qApM at hap
    rw [qbecN]
    by_cases w : p = n
    · subst w
      have s1 : qbecN I o q p (qm q p) = I (qm q p) := qbecN_row p (by omega) (by unfold qm; omega)
      unfold qbecomes
      rcases (by omega : j = 3 ∨ j = 4 ∨ j = 5 ∨ j = 6) with rfl | rfl | rfl | rfl
      · rw [qfil_o (by omega), qup_j (by decide), qup_j (by decide), qup_j (by decide), qup_at, s1]
      · rw [qfil_o (by omega), qup_j (by decide), qup_j (by decide), qup_at, s1]
      · rw [qfil_o (by omega), qup_j (by decide), qup_at, s1]
      · rw [qfil_o (by omega), qup_at, s1]
    · rw [qbecomes_row (by unfold qm; omega) (by unfold qm; omega)]
      exact ih (by omega) p (by omega) j h1 h2
theorem vH.bec {I : qI} {f f' : Nat → Int32} {o q D : Nat} (h : vH I q f) (hok : qMgOK I q D) (hap : qApM o q) (hf : ∀ j, 12 ≤ j → j < 36 → f' j = f j) : vH (qmbec I o q) o f' := by
  obtain ⟨⟨c, c6, hc⟩, -⟩ := hok
  intro c' p hc' e hp
  have ec : c' = c := (nI_eq (by omega) (by omega)).mp (e.symm.trans (qmbec_1 hc c6))
  subst ec
  have s : ∀ j, 3 ≤ j → j < 7 → qmbec I o q (qm o p) j = I (qm q p) j := fun j h1 h2 => by
    rw [qmbec_m hc c6 (by omega), qbecN_h hap c' c6 p hp j h1 h2, qup_row (by unfold qApM at hap; unfold qm; omega)]
  obtain ⟨b1, b2, b3, b4, b5, b6, b7⟩ := h c' p c6 hc hp
  rw [hf _ (by omega) (by omega), hf _ (by omega) (by omega), hf _ (by omega) (by omega), hf _ (by omega) (by omega), s 3 (by omega) (by omega), s 4 (by omega) (by omega), s 5 (by omega) (by omega), s 6 (by omega) (by omega)]
  exact ⟨b1, b2, b3, b4, b5, b6, b7⟩
theorem vINV.image {S S1 S2 : qSh} {I I1 I2 : qI} {J J1 J2 : qJ} {T T2 : qI → Prop} {v v2 : Option Value} (g : vINV S I J) (pK : I1 = qup (qmbec I 60 6) 0 4 1 ∧ J1 = J ∧ qMgOK I 6 9999) (cw : cWi S S1 I I1) (hK : KQ0 S I J T v S1 I1 J1) (pR : (∀ j, j < 124 → I2 139 j = kp I1 j) ∧ (∀ j, j < 124 → kp I2 j = kp I1 j) ∧ I2 114 39 = 1 ∧ (I2 114 37 = I1 114 37 ∧ I2 138 = I1 138) ∧ (I2 114 17 = I1 114 17 ∧ I2 114 11 = I1 114 11 ∧ I2 123 = I1 123) ∧ (∀ a, 145 ≤ a → a ≤ 147 → I2 a = I1 a) ∧ J2 = J1) (rw : rW I1 I2) (hV : RQ0 S1 I1 J1 T2 v2 S2 I2 J2) : vINV S2 I2 J2 := by
  refine ⟨g.1.image pK hK pR hV, ?_⟩
  have cf := hK.2.2.1
  obtain ⟨hS, -, rf, -⟩ := hV
  subst hS
  obtain ⟨hI1, -, hok⟩ := pK
  obtain ⟨k139, kk, -⟩ := pR
  obtain ⟨t1, t2, t3⟩ := g.2
  obtain ⟨c1, c2, c3⟩ := cw
  have ap : qApM 60 6 := by unfold qApM; omega
  have r1 : ∀ a, a ≠ 0 → (a < 60 ∨ 86 < a) → I1 a = I a := fun a a0 ha => by rw [hI1, qup_row a0, qmbec_row hok (by omega)]
  have r60 : ∀ a, 60 ≤ a → I1 a = qmbec I 60 6 a := fun a ha => by rw [hI1, qup_row (by omega)]
  have kk2 : ∀ j, j < 124 → kp I2 j = kp I j := fun j hj => by rw [kk j hj, kp_far cf hj]
  have c114 := (cf 114 (by omega) (by omega)).1
  have e18 : I2 114 18 = I 114 18 := by rw [rw.1, c114]
  have e25 : I2 114 25 = I 114 25 := by rw [rw.2.1, c114]
  have il : ∀ w, qR S 6 5 = some w → xIl I2 I2 w (I 114 18) := fun w hw => by
    have hq := g.1.w6 w (Or.inl hw)
    unfold qW1 at hq
    exact (t1 w hw).fr (fun b hb => by rw [(rf (w + b) (by omega)).1, c3 w hw b hb]) (fun a ha => by rw [rw.2.2 a ha.1 ha.2, (cf a (by omega) (by omega)).1]) e25
  refine ⟨fun w hw => ?_, ?_, fun _ => ⟨fun w hw => ?_, ?_⟩⟩
  · rw [c1] at hw
    rw [e18]
    exact il w hw
  · exact t2.rows (fun a a1 a2 => by rw [(rf a (by omega)).1, r1 a (by omega) (by omega)]) (fun j _ h2 => kk2 j (by omega))
  · rw [c2] at hw
    have e : I2 139 123 = I 114 18 := by
      rw [k139 123 (by omega), kp_far cf (by omega)]; unfold kp; rw [kpa_nf18]
    rw [e]
    exact il w hw
  · have b : vH (qmbec I 60 6) 60 (I2 139) := t2.bec hok ap (fun j _ h2 => by rw [k139 j (by omega), kp_far cf (by omega)])
    exact b.rows (fun a a1 a2 => by rw [(rf a (by omega)).1, r60 a a1]) (fun j _ _ => rfl)
theorem vINV.undo1 {S S1 S2 : qSh} {I I1 I2 : qI} {J J1 J2 : qJ} {T T2 : qI → Prop} {v v2 : Option Value} (g : vINV S I J) (hz : I 0 4 = 1) (pK : I1 = qmbec I 6 60 ∧ J1 = J ∧ qMgOK I 60 9999) (cw : cWu S S1 I I1) (hK : KQ0 S I J T v S1 I1 J1) (pR : (∀ j, j < 124 → kp I2 j = I1 139 j) ∧ I2 139 = I1 139 ∧ (I2 114 37 = I1 114 37 ∧ I2 138 = I1 138) ∧ (I2 114 17 = I1 114 17 ∧ I2 114 11 = I1 114 11 ∧ I2 123 = I1 123) ∧ (∀ a, 145 ≤ a → a ≤ 147 → I2 a = I1 a) ∧ J2 = J1) (rw : I2 114 25 = I1 114 25 ∧ ∀ a, 124 ≤ a → a ≤ 129 → I2 a = I1 a) (h39 : I2 114 39 = 1) (hV : RQ0 S1 I1 J1 T2 v2 S2 I2 J2) : vINV S2 I2 J2 := by
  refine ⟨g.1.undo1 hz pK hK pR h39 hV, ?_⟩
  have cf := hK.2.2.1
  obtain ⟨hS, -, rf, -⟩ := hV
  subst hS
  obtain ⟨hI1, -, hok⟩ := pK
  obtain ⟨kk, e139, -⟩ := pR
  obtain ⟨t1, t2, t3⟩ := g.2
  obtain ⟨u1, u2⟩ := t3 hz
  obtain ⟨c1, c2, c3⟩ := cw
  have ap : qApM 6 60 := by unfold qApM; omega
  have r1 : ∀ a, (a < 6 ∨ 32 < a) → I1 a = I a := fun a ha => by rw [hI1, qmbec_row hok (by omega)]
  have e139' : I1 139 = I 139 := (cf 139 (by omega) (by omega)).1
  have c114 := (cf 114 (by omega) (by omega)).1
  have e25 : I2 114 25 = I 114 25 := by rw [rw.1, c114]
  have e18 : I2 114 18 = I 139 123 := by
    have := kk 123 (by omega)
    unfold kp at this
    rw [kpa_nf18] at this
    rw [this, e139']
  have il : ∀ w, qR S 60 5 = some w → xIl I2 I2 w (I 139 123) := fun w hw => by
    have hq := g.1.w6 w (Or.inr hw)
    unfold qW1 at hq
    exact (u1 w hw).fr (fun b hb => by rw [(rf (w + b) (by omega)).1, c3 w hw b hb]) (fun a ha => by rw [rw.2 a ha.1 ha.2, (cf a (by omega) (by omega)).1]) e25
  refine ⟨fun w hw => ?_, ?_, fun _ => ⟨fun w hw => ?_, ?_⟩⟩
  · rw [c1] at hw
    rw [e18]
    exact il w hw
  · have b : vH (qmbec I 6 60) 6 (kp I2) := u2.bec hok ap (fun j _ h2 => by rw [kk j (by omega), e139'])
    exact b.rows (fun a a1 a2 => by rw [(rf a (by omega)).1, hI1]) (fun j _ _ => rfl)
  · rw [c2] at hw
    rw [e139, e139']
    exact il w hw
  · rw [e139, e139']
    exact u2.rows (fun a a1 a2 => by rw [(rf a (by omega)).1, r1 a (by omega)]) (fun j _ _ => rfl)
/-- a call that touches no hurt: the rows of the object it leaves -/
theorem vINV.frm {S S1 S2 : qSh} {I I1 I2 : qI} {J J1 J2 : qJ} {T T2 : qI → Prop} {v v2 : Option Value} (g : vINV S I J) (cw : cW S S1 I I1) (hK : KQ0 S I J T v S1 I1 J1) (hV : RQ0 S1 I1 J1 T2 v2 S2 I2 J2) (r : ∀ a, (a = 0 ∨ (60 ≤ a ∧ a ≤ 86)) → I1 a = I a) (e61 : I1 6 1 = I 6 1) (rm : ∀ p j, p < 6 → j < 7 → I1 (qm 6 p) j = I (qm 6 p) j) (gf : gFr I1 I2) : vTie S2 I2 :=
  g.still cw hK hV (by rw [r 0 (by omega)]) (fun a a1 a2 => r a (by omega)) e61 rm gf.rw gf.i gf.kk
section V37
variable {S S1 S2 : qSh} {I I1 I2 : qI} {J J1 J2 : qJ} {T T2 : qI → Prop} {v v2 : Option Value}
theorem vINV.row {p r n : Int32} (g : vINV S I J) (pK : ∃ c, c ≤ 6 ∧ I 6 1 = nI c ∧ v = some (.int (ca_row I c p r n)) ∧ I1 = ci_row I c p r n ∧ J1 = J) (cw : cW S S1 I I1) (hK : KQ0 S I J T v S1 I1 J1) (pR : v2 = some (.int (ga_Md_row I1 J1 p r n)) ∧ I2 = gi_Md_row I1 J1 p r n ∧ J2 = gj_Md_row I1 J1 p r n) (hV : RQ0 S1 I1 J1 T2 v2 S2 I2 J2) : vINV S2 I2 J2 := by
  refine ⟨(g.1.row pK hK pR hV).1, ?_⟩
  obtain ⟨c, c6, hc, -, hI1, -⟩ := pK
  obtain ⟨-, hI2, -⟩ := pR
  refine g.frm cw hK hV (fun a ha => by rw [hI1]; exact ci_row_fr c6 (by omega)) (by rw [hI1, ci_row_fr c6 (by omega)]) (fun q j hq _ => ?_) (by rw [hI2]; exact gFr_row)
  rw [hI1]
  unfold ci_row
  by_cases q0 : qwithin p 0 (nI c - 1) = 0
  · rw [if_pos q0]
  rw [if_neg q0]
  obtain ⟨m, m1, rfl⟩ := qisM_y (show c < 2 ^ 31 by omega) q0
  rw [qcl (n := m) (by omega)]
  (repeat' split) <;> first | rfl | (rw [qup_row (by unfold qm; omega)])
theorem vINV.list {p : Int32} (g : vINV S I J) (pK : ∃ c l, c ≤ 6 ∧ I 6 1 = nI c ∧ l ≤ 6 ∧ I 6 3 = nI l ∧ v = some (.int (ca_list I c l p)) ∧ I1 = ci_list I c l p ∧ J1 = J) (cw : cW S S1 I I1) (hK : KQ0 S I J T v S1 I1 J1) (pR : ∃ l, l ≤ 6 ∧ I1 114 8 = nI l ∧ v2 = some (.int (ga_Md_list I1 J1 l p)) ∧ I2 = gi_Md_list I1 J1 l p ∧ J2 = gj_Md_list I1 J1 l p) (hV : RQ0 S1 I1 J1 T2 v2 S2 I2 J2) : vINV S2 I2 J2 := by
  refine ⟨(g.1.list pK hK pR hV).1, ?_⟩
  obtain ⟨c, l, c6, hc, l6, hl, -, hI1, -⟩ := pK
  obtain ⟨l', l6', hl', -, hI2, -⟩ := pR
  refine g.frm cw hK hV (fun a ha => by rw [hI1]; exact ci_list_fr (by omega) (by omega)) ?_ (fun q j hq _ => by rw [hI1, ci_list_fr (by unfold qm; omega) (by unfold qm; omega)]) (by rw [hI2]; exact gFr_list)
  rw [hI1]
  unfold ci_list
  (repeat' split) <;> first | rfl | (rw [qup_j (by decide)]) | (rw [qup_j (by decide), qup_o (by decide)])
theorem vINV.swap {p q : Int32} (g : vINV S I J) (pK : ∃ c l, c ≤ 6 ∧ I 6 1 = nI c ∧ l ≤ 6 ∧ I 6 3 = nI l ∧ v = some (.int (ca_swap I c l p q)) ∧ I1 = ci_swap I c l p q ∧ J1 = J) (cw : cW S S1 I I1) (hK : KQ0 S I J T v S1 I1 J1) (pR : ∃ l, l ≤ 6 ∧ I1 114 8 = nI l ∧ v2 = some (.int (ga_Md_swap I1 J1 l p q)) ∧ I2 = gi_Md_swap I1 J1 l p q ∧ J2 = gj_Md_swap I1 J1 l p q) (hV : RQ0 S1 I1 J1 T2 v2 S2 I2 J2) : vINV S2 I2 J2 := by
  refine ⟨(g.1.swap pK hK pR hV).1, ?_⟩
  obtain ⟨c, l, c6, hc, l6, hl, -, hI1, -⟩ := pK
  obtain ⟨l', l6', hl', -, hI2, -⟩ := pR
  have r1 : ∀ a, a ≠ 8 → I1 a = I a := fun a ha => by rw [hI1]; exact ci_swap_fr ha
  exact g.frm cw hK hV (fun a ha => r1 a (by omega)) (by rw [r1 6 (by omega)]) (fun q j hq _ => by rw [r1 (qm 6 q) (by unfold qm; omega)]) (by rw [hI2]; exact gFr_swap)
theorem vINV.see {p x n : Int32} (g : vINV S I J) (pK : ∃ c z, c ≤ 6 ∧ I 6 1 = nI c ∧ z ≤ 5 ∧ I 9 3 = nI z ∧ v = some (.int (ca_see c z p x n)) ∧ I1 = ci_see I c z p x n ∧ J1 = J) (cw : cW S S1 I I1) (hK : KQ0 S I J T v S1 I1 J1) (pR : v2 = some (.int (ga_Md_see I1 J1 p x n)) ∧ I2 = gi_Md_see I1 J1 p x n ∧ J2 = gj_Md_see I1 J1 p x n) (hV : RQ0 S1 I1 J1 T2 v2 S2 I2 J2) : vINV S2 I2 J2 := by
  refine ⟨(g.1.see pK hK pR hV).1, ?_⟩
  obtain ⟨c, z, -, -, -, -, -, hI1, -⟩ := pK
  obtain ⟨-, hI2, -⟩ := pR
  have r1 : ∀ a, (a < 9 ∨ 12 < a) → I1 a = I a := fun a ha => by rw [hI1]; exact ci_see_fr ha
  exact g.frm cw hK hV (fun a ha => r1 a (by omega)) (by rw [r1 6 (by omega)]) (fun q j hq _ => by rw [r1 (qm 6 q) (by unfold qm; omega)]) (by rw [hI2]; exact gFr_see)
theorem vINV.plan {x p : Int32} (g : vINV S I J) (pK : ∃ c z, c ≤ 6 ∧ I 6 1 = nI c ∧ z ≤ 10 ∧ I 13 3 = nI z ∧ v = some (.int (ca_plan c z x p)) ∧ I1 = ci_plan I c z x p ∧ J1 = J) (cw : cW S S1 I I1) (hK : KQ0 S I J T v S1 I1 J1) (pR : v2 = some (.int (ga_Md_plan I1 J1 x p)) ∧ I2 = gi_Md_plan I1 J1 x p ∧ J2 = gj_Md_plan I1 J1 x p) (hV : RQ0 S1 I1 J1 T2 v2 S2 I2 J2) : vINV S2 I2 J2 := by
  refine ⟨(g.1.plan pK hK pR hV).1, ?_⟩
  obtain ⟨c, z, -, -, -, -, -, hI1, -⟩ := pK
  obtain ⟨-, hI2, -⟩ := pR
  have r1 : ∀ a, (a < 13 ∨ 16 < a) → I1 a = I a := fun a ha => by rw [hI1]; exact ci_plan_fr ha
  exact g.frm cw hK hV (fun a ha => r1 a (by omega)) (by rw [r1 6 (by omega)]) (fun q j hq _ => by rw [r1 (qm 6 q) (by unfold qm; omega)]) (by rw [hI2]; exact gFr_plan)
theorem vINV.book {p x : Int32} (g : vINV S I J) (pK : ∃ c z, c ≤ 6 ∧ I 6 1 = nI c ∧ z ≤ 8 ∧ I 17 3 = nI z ∧ v = some (.int (ca_book c z p x)) ∧ I1 = ci_book I c z p x ∧ J1 = J) (cw : cW S S1 I I1) (hK : KQ0 S I J T v S1 I1 J1) (pR : v2 = some (.int (ga_Md_book I1 J1 p x)) ∧ I2 = gi_Md_book I1 J1 p x ∧ J2 = gj_Md_book I1 J1 p x) (hV : RQ0 S1 I1 J1 T2 v2 S2 I2 J2) : vINV S2 I2 J2 := by
  refine ⟨(g.1.book pK hK pR hV).1, ?_⟩
  obtain ⟨c, z, -, -, -, -, -, hI1, -⟩ := pK
  obtain ⟨-, hI2, -⟩ := pR
  have r1 : ∀ a, (a < 17 ∨ 20 < a) → I1 a = I a := fun a ha => by rw [hI1]; exact ci_book_fr ha
  exact g.frm cw hK hV (fun a ha => r1 a (by omega)) (by rw [r1 6 (by omega)]) (fun q j hq _ => by rw [r1 (qm 6 q) (by unfold qm; omega)]) (by rw [hI2]; exact gFr_book)
theorem vINV.feed {x : Int32} (g : vINV S I J) (pK : ∃ z, z ≤ 100 ∧ I 87 1 = nI z ∧ v = some (.int (ca_feed z x)) ∧ I1 = ci_feed I z x ∧ J1 = J) (cw : cW S S1 I I1) (hK : KQ0 S I J T v S1 I1 J1) (pR : v2 = some (.int (ga_Md_feed I1 J1 x)) ∧ I2 = gi_Md_feed I1 J1 x ∧ J2 = gj_Md_feed I1 J1 x) (hV : RQ0 S1 I1 J1 T2 v2 S2 I2 J2) : vINV S2 I2 J2 := by
  refine ⟨(g.1.feed pK hK pR hV).1, ?_⟩
  obtain ⟨z, -, -, -, hI1, -⟩ := pK
  obtain ⟨-, hI2, -⟩ := pR
  have r1 : ∀ a, a ≠ 87 → a ≠ 88 → I1 a = I a := fun a h1 h2 => by rw [hI1]; exact ci_feed_fr h1 h2
  exact g.frm cw hK hV (fun a ha => r1 a (by omega) (by omega)) (by rw [r1 6 (by omega) (by omega)]) (fun q j hq _ => by rw [r1 (qm 6 q) (by unfold qm; omega) (by unfold qm; omega)]) (by rw [hI2]; exact gFr_feed)
theorem vINV.tape {tp s n : Int32} (g : vINV S I J) (pK : I1 = ci_tape I tp s n ∧ J1 = cj_tape J tp s n) (cw : cW S S1 I I1) (hK : KQ0 S I J T v S1 I1 J1) (pR : xTp I1 J1 tp s n I2 J2) (hV : RQ0 S1 I1 J1 T2 v2 S2 I2 J2) : vINV S2 I2 J2 := by
  refine ⟨g.1.tape pK hK pR hV, ?_⟩
  obtain ⟨hI1, -⟩ := pK
  have r1 : ∀ a, a < 102 → I1 a = I a := fun a ha => by rw [hI1]; exact ci_tape_fr (by omega)
  refine g.frm cw hK hV (fun a ha => r1 a (by omega)) (by rw [r1 6 (by omega)]) (fun q j hq _ => by rw [r1 (qm 6 q) (by unfold qm; omega)]) ?_
  rcases pR with ⟨-, h, -⟩ | ⟨t, -, -, -, -, -, h, -⟩
  · rw [h]; exact gFr.rf
  · rw [h]; exact (gFr.rf.up (by omega)).up (by omega)
theorem vINV.item {tp i : Int32} {z : Int64} (g : vINV S I J) (pK : v = some (.int (ca_item I tp i)) ∧ I1 = I ∧ J1 = cj_item I J tp i z) (cw : cW S S1 I I1) (hK : KQ0 S I J T v S1 I1 J1) (pR : v2 = some (.int (ga_Md_item I1 J1 tp i z)) ∧ I2 = I1 ∧ J2 = gj_Md_item I1 J1 tp i z) (hV : RQ0 S1 I1 J1 T2 v2 S2 I2 J2) : vINV S2 I2 J2 := by
  refine ⟨(g.1.item pK hK pR hV).1, ?_⟩
  have h1 := pK.2.1
  have h2 := pR.2.1
  exact g.frm cw hK hV (fun a _ => by rw [h1]) (by rw [h1]) (fun _ _ _ _ => by rw [h1]) (by rw [h2]; exact gFr.rf)
theorem vINV.shift {tp i tq j n : Int32} (g : vINV S I J) (pK : v = some (.int (ca_shift I tp i tq j n)) ∧ I1 = I ∧ J1 = cj_shift I J tp i tq j n) (cw : cW S S1 I I1) (hK : KQ0 S I J T v S1 I1 J1) (pR : qSh1 S1 I1 J1 tp i tq j n v2 S2 I2 J2) (hV : RQ0 S1 I1 J1 T2 v2 S2 I2 J2) : vINV S2 I2 J2 := by
  refine ⟨(g.1.shift pK hK pR hV).1, ?_⟩
  have h1 := pK.2.1
  have h2 : I2 = I1 := pR.2.1.symm
  exact g.frm cw hK hV (fun a _ => by rw [h1]) (by rw [h1]) (fun _ _ _ _ => by rw [h1]) (by rw [h2]; exact gFr.rf)
theorem vINV.act {m a x : Int32} (g : vINV S I J) (pK : ∃ c, c ≤ 6 ∧ I 6 1 = nI c ∧ v = some (.int (ca_act I c m a x).1) ∧ I1 = qtrace (qup I 99 1 0) (ca_act I c m a x).2 ∧ J1 = J) (cw : cW S S1 I I1) (hK : KQ0 S I J T v S1 I1 J1) (pR : ∃ c, c ≤ 6 ∧ I1 114 0 = nI c ∧ J2 = J1 ∧ (((∀ p, p < c → m ≠ nI p) ∨ qwithin a 0 2 = 0) ∧ v2 = some (.int 0) ∧ I2 = qup I1 114 37 0 ∨ ∃ p k, p < c ∧ m = nI p ∧ k < 7 ∧ I1 115 p = nI k ∧ ¬ qwithin a 0 2 = 0 ∧ v2 = some (.int (mAct (nI p) (I1 116 p) k a x).1) ∧ I2 = mtrace (qup I1 114 37 0) (mAct (nI p) (I1 116 p) k a x).2)) (hV : RQ0 S1 I1 J1 T2 v2 S2 I2 J2) : vINV S2 I2 J2 := by
  refine ⟨(g.1.act pK hK pR hV).1, ?_⟩
  obtain ⟨c, -, -, -, hI1, -⟩ := pK
  have r1 : ∀ b, b < 99 → I1 b = I b := fun b hb => by rw [hI1, qtrace_row (by omega) (by omega), qup_row (by omega)]
  refine g.frm cw hK hV (fun a ha => r1 a (by omega)) (by rw [r1 6 (by omega)]) (fun q j hq _ => by rw [r1 (qm 6 q) (by unfold qm; omega)]) ?_
  obtain ⟨c', -, -, -, ⟨-, -, h⟩ | ⟨p, k, -, -, -, -, -, -, h⟩⟩ := pR
  · rw [h]; exact gFr.rf.up4 (by omega)
  · rw [h]; exact gFr_mtrace _ (gFr.rf.up4 (by omega))
end V37
