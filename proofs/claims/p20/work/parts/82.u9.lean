/-! class and reference side by side: notes set, days, the image, islands -/
theorem qgoN_row2 {I : qI} {o i a D : Nat} {most : Int32} (hok : qMgOK I o D) (h : a ≠ o) (hm : ∀ p, p < 6 → a ≠ qm o p) : ∀ n, qgoN I o i most n a = I a := by
  intro n
  induction n with
  | zero => rfl
  | succ n ih =>
    obtain ⟨⟨c, hc6, hc⟩, -⟩ := hok.goN (i := i) (most := most) n
    rw [qgoN]
    unfold qgo1
    rw [hc, qcl (by omega), qup_row h, qgoPs_row c (fun p hp => hm p (by omega))]
    exact ih
theorem qgoN_f {I : qI} {o i j D : Nat} {most : Int32} (hok : qMgOK I o D) (hj : j ≠ 4) : ∀ n, qgoN I o i most n o j = I o j := by
  intro n
  induction n with
  | zero => rfl
  | succ n ih =>
    obtain ⟨⟨c, hc6, hc⟩, -⟩ := hok.goN (i := i) (most := most) n
    rw [qgoN]
    unfold qgo1
    rw [hc, qcl (by omega), qup_j hj, qgoPs_row c (fun p hp => by unfold qm; omega)]
    exact ih
theorem kp_u {I : qI} {a i n : Nat} {x : Int32} {k : Nat} (hn : n < 124) (e : kpa n = (a, i)) (hk : k < 117) : kp (qup I a i x) k = if k = n then x else kp I k := kp_up e (by omega) hn
section U9
variable {S S1 S2 : qSh} {I I1 I2 : qI} {J J1 J2 : qJ} {T T2 : qI → Prop} {v v2 : Option Value}
theorem uINV.mourner {kd vv gg : Int32} {c : Nat} (g : uINV S I J) (c6 : c ≤ 6) (hc : I 6 1 = nI c) (hI1 : I1 = cMournerI I c kd vv gg) (hJ1 : J1 = J) (cw : cW S S1 I I1) (hK : KQ0 S I J T v S1 I1 J1) (hI2 : I2 = gi_Md_mourner I1 J1 kd vv gg) (j2 : J2 = J1) (hV : RQ0 S1 I1 J1 T2 v2 S2 I2 J2) : uINV S2 I2 J2 := by
  refine ⟨g.1.mourner c6 hc hI1 hJ1 cw hK hI2 j2 hV, ?_⟩
  have ru : uFr I1 I2 := by
    rw [hI2]
    unfold gi_Md_mourner
    (repeat' split) <;> first | exact uFr.rf | exact ((((((((((uFr.rf.up (by omega)).up (by omega)).up (by omega)).up (by omega)).up (by omega)).up (by omega)).up (by omega)).up (by omega)).up (by omega)).up (by omega)).up (by omega)
  have cs : I1 = I ∨ c < 6 ∧ I1 = qup (qcomes I (qm 6 c) kd vv gg) 6 1 (nI (c + 1)) := by
    rw [hI1]
    unfold cMournerI
    split
    · exact Or.inl rfl
    · split
      · exact Or.inl rfl
      · split
        · exact Or.inl rfl
        · split
          · exact Or.inr ⟨by assumption, rfl⟩
          · exact Or.inl rfl
  rcases cs with e | ⟨c5, e⟩
  · exact g.2.frm hK.2.2.1 hV.2.2.1 (fun a _ => by rw [e]) (by rw [e]) ru
  · have r : ∀ a, a ≠ 6 → a ≠ qm 6 c → a ≠ qm 6 c + 1 → I1 a = I a := fun a h1 h2 h3 => by
      rw [e, qup_row h1]
      unfold qcomes
      rw [qfil_o h3, qup_row h2, qup_row h2, qup_row h2, qup_row h2, qup_row h2, qup_row h2]
    have r' : ∀ a, a ≠ 6 → (a < 21 ∨ 32 < a) → I1 a = I a := fun a h1 h2 => r a h1 (by unfold qm; omega) (by unfold qm; omega)
    refine g.2.mk hK.2.2.1 hV.2.2.1 (by rw [r' 0 (by omega) (by omega)]) (fun c' _ hc' => ?_) (fun a a1 a2 => r' a (by omega) (by omega)) (fun a a1 a2 => r' a (by omega) (by omega)) (fun p hp => by rw [r' (qm 33 p) (by unfold qm; omega) (by unfold qm; omega)]) ru.kk (ru 139 (by omega))
    have : c' = c := (nI_eq (by omega) (by omega)).mp (hc'.symm.trans hc)
    exact ⟨c + 1, by omega, by omega, by rw [e, qup_at]⟩
theorem uINV.pass {n : Int32} (g : uINV S I J) (pK : ∃ d w, d ≤ 9999 ∧ I 6 4 = nI d ∧ qW1 w ∧ qMgOK I 6 9999 ∧ v = some (.int (ca_pass I d n)) ∧ qEq (w + 4) (ci_pass I w d n) I1 ∧ J1 = J) (cw : cW S S1 I I1 ∧ ∃ d w, d ≤ 9999 ∧ I 6 4 = nI d ∧ qR S 6 5 = some w ∧ qEq (w + 4) (ci_pass I w d n) I1) (hK : KQ0 S I J T v S1 I1 J1) (pR : ∃ d, d ≤ 9999 ∧ I1 114 10 = nI d ∧ J1 = J2 ∧ (if qwithin n 0 60 = 0 then v2 = some (.int (-2)) ∧ I1 = I2 else if 9999 < nI d + n then v2 = some (.int (-3)) ∧ I1 = I2 else v2 = some (.int (nI d + n)) ∧ q130 (mpassN I1 n.toNatClampNeg) I2)) (hV : RQ0 S1 I1 J1 T2 v2 S2 I2 J2) : uINV S2 I2 J2 ∧ v = v2 := by
  obtain ⟨gv, ev⟩ := g.1.pass pK cw hK pR hV
  refine ⟨⟨gv, ?_⟩, ev⟩
  obtain ⟨d, w, d9, hd, hw, hok, -, he, -⟩ := pK
  unfold qW1 at hw
  have ci : ∀ a, a ≠ 6 → (∀ p, p < 6 → a ≠ qm 6 p) → ci_pass I w d n a = I a := fun a h1 h2 => by
    unfold ci_pass
    split
    · rfl
    · split
      · exact qgoN_row2 hok h1 h2 _
      · rfl
  have r : ∀ a, (a = 0 ∨ (9 ≤ a ∧ a ≤ 20) ∨ (33 ≤ a ∧ a ≤ 86)) → I1 a = I a := fun a ha => by
    rw [he a (by omega), ci a (by omega) (fun p hp => by unfold qm; omega)]
  refine g.2.frm hK.2.2.1 hV.2.2.1 r ?_ ?_
  · rw [he 6 (by omega)]
    unfold ci_pass
    split
    · rfl
    · split
      · exact qgoN_f hok (by decide) _
      · rfl
  · obtain ⟨d', -, -, -, hR⟩ := pR
    split at hR
    · rw [← hR.2]; exact uFr.rf
    · split at hR
      · rw [← hR.2]; exact uFr.rf
      · intro a ha
        rw [hR.2 a (by omega), mpassN_row (by omega) (by omega) (by omega) (by omega)]
theorem uINV.isl6 (g : uINV S I J) (h6 : I 0 7 = 6) (pK : v = some (.int (-4)) ∧ cU I I1 J J1) (cw : cW S S1 I I1) (hK : KQ0 S I J T v S1 I1 J1) (pR : xRi I1 v2 I2 ∧ xRn I1 I2) (hr : rIs I1 I2 J1 J2) (hV : RQ0 S1 I1 J1 T2 v2 S2 I2 J2) : uINV S2 I2 J2 ∧ v = v2 := by
  obtain ⟨gv, ev⟩ := g.1.isl6 h6 pK cw hK pR hr hV
  have u := pK.2
  exact ⟨⟨gv, g.2.mk hK.2.2.1 hV.2.2.1 u.2.1 (uu_same (by rw [(u.1 6 (by omega)).1])) (fun a a1 a2 => (u.1 a (by omega)).1) (fun a a1 a2 => (u.1 a (by omega)).1) u.2.2 (fun j _ j2 => hr.1 j (by omega)) hr.2.1⟩, ev⟩
theorem uINV.isl {n : Nat} (g : uINV S I J) (h6 : ¬ I 0 7 = 6) (hn : I 87 1 = nI n) (n100 : n ≤ 100) (hJ : J1 = J) (hc : cIs I I1) (hK : KQ0 S I J T v S1 I1 J1) (pR : xRi I1 v2 I2 ∧ xRn I1 I2) (hr : rIs I1 I2 J1 J2) (hV : RQ0 S1 I1 J1 T2 v2 S2 I2 J2) (hk : (rok (rread (I 123) n) n = 0 ∧ v = some (.int (-10 - nI (rread (I 123) n).1.1)) ∧ I1 0 7 = I 0 7) ∨ (¬ rok (rread (I 123) n) n = 0 ∧ (∃ g, g < 6 ∧ I 0 7 = nI g ∧ v = some (.int (nI g))) ∧ I1 0 7 = I 0 7 + 1)) (cw : (rok (rread (I 123) n) n = 0 ∧ cW S S1 I I1) ∨ (¬ rok (rread (I 123) n) n = 0 ∧ cWn S S1 I I1 (I 123) n)) : uINV S2 I2 J2 ∧ v = v2 := by
  obtain ⟨gv, ev⟩ := g.1.isl h6 hn n100 hJ hc hK pR hr hV hk cw
  exact ⟨⟨gv, g.2.mk hK.2.2.1 hV.2.2.1 hc.2.1 (uu_same (by rw [hc.1 6 (by omega)])) (fun a a1 a2 => hc.1 a (by omega)) (fun a a1 a2 => hc.1 a (by omega)) (fun p hp => by rw [hc.1 (qm 33 p) (by unfold qm; omega)]) (fun j _ j2 => hr.1 j (by omega)) hr.2.1⟩, ev⟩
theorem uINV.image (g : uINV S I J) (pK : I1 = qup (qmbec I 60 6) 0 4 1 ∧ J1 = J ∧ qMgOK I 6 9999) (cw : cWi S S1 I I1) (hK : KQ0 S I J T v S1 I1 J1) (pR : (∀ j, j < 124 → I2 139 j = kp I1 j) ∧ (∀ j, j < 124 → kp I2 j = kp I1 j) ∧ I2 114 39 = 1 ∧ (I2 114 37 = I1 114 37 ∧ I2 138 = I1 138) ∧ (I2 114 17 = I1 114 17 ∧ I2 114 11 = I1 114 11 ∧ I2 123 = I1 123) ∧ (∀ a, 145 ≤ a → a ≤ 147 → I2 a = I1 a) ∧ J2 = J1) (rw : rW I1 I2) (hV : RQ0 S1 I1 J1 T2 v2 S2 I2 J2) : uINV S2 I2 J2 := by
  refine ⟨g.1.image pK cw hK pR rw hV, ?_⟩
  have cf := hK.2.2.1
  have rf := hV.2.2.1
  obtain ⟨hI1, -, hok⟩ := pK
  obtain ⟨k139, kk, -⟩ := pR
  obtain ⟨t1, t2, t3⟩ := g.2
  have ap : qApM 60 6 := by unfold qApM; omega
  have r1 : ∀ a, a ≠ 0 → (a < 60 ∨ 86 < a) → I1 a = I a := fun a a0 ha => by rw [hI1, qup_row a0, qmbec_row hok (by omega)]
  have r60 : ∀ a, 60 ≤ a → I1 a = qmbec I 60 6 a := fun a ha => by rw [hI1, qup_row (by omega)]
  have e : ∀ a, a < 114 → I2 a = I1 a := fun a ha => (rf a (by omega)).1
  refine ⟨t1.fr (uu_same (by rw [e 6 (by omega), r1 6 (by omega) (by omega)])) (fun a a1 a2 => by rw [e a (by omega), r1 a (by omega) (by omega)]) (fun j j1 j2 => by rw [kk j (by omega), kp_far cf (by omega)]), fun _ => ?_, fun p hp => ?_⟩
  · have b : uN (qmbec I 60 6) 60 (I2 139) := t1.bec hok ap (fun j j1 j2 => by rw [k139 j (by omega), kp_far cf (by omega)])
    exact b.fr (uu_same (by rw [e 60 (by omega), r60 60 (by omega)])) (fun a a1 a2 => by rw [e a (by omega), r60 a (by omega)]) (fun _ _ _ => rfl)
  · rw [e (qm 33 p) (by unfold qm; omega), r1 (qm 33 p) (by unfold qm; omega) (by unfold qm; omega)]; exact t3 p hp
theorem uINV.undo1 (g : uINV S I J) (hz : I 0 4 = 1) (pK : I1 = qmbec I 6 60 ∧ J1 = J ∧ qMgOK I 60 9999) (cw : cWu S S1 I I1) (hK : KQ0 S I J T v S1 I1 J1) (pR : (∀ j, j < 124 → kp I2 j = I1 139 j) ∧ I2 139 = I1 139 ∧ (I2 114 37 = I1 114 37 ∧ I2 138 = I1 138) ∧ (I2 114 17 = I1 114 17 ∧ I2 114 11 = I1 114 11 ∧ I2 123 = I1 123) ∧ (∀ a, 145 ≤ a → a ≤ 147 → I2 a = I1 a) ∧ J2 = J1) (rw : I2 114 25 = I1 114 25 ∧ ∀ a, 124 ≤ a → a ≤ 129 → I2 a = I1 a) (h39 : I2 114 39 = 1) (hV : RQ0 S1 I1 J1 T2 v2 S2 I2 J2) : uINV S2 I2 J2 := by
  refine ⟨g.1.undo1 hz pK cw hK pR rw h39 hV, ?_⟩
  have cf := hK.2.2.1
  have rf := hV.2.2.1
  obtain ⟨hI1, -, hok⟩ := pK
  obtain ⟨kk, e139, -⟩ := pR
  obtain ⟨t1, t2, t3⟩ := g.2
  have ap : qApM 6 60 := by unfold qApM; omega
  have r1 : ∀ a, (a < 6 ∨ 32 < a) → I1 a = I a := fun a ha => by rw [hI1, qmbec_row hok (by omega)]
  have e : ∀ a, a < 114 → I2 a = I1 a := fun a ha => (rf a (by omega)).1
  have c139 : I1 139 = I 139 := (cf 139 (by omega) (by omega)).1
  refine ⟨?_, fun _ => ?_, fun p hp => ?_⟩
  · have b : uN (qmbec I 6 60) 6 (kp I2) := (t2 hz).bec hok ap (fun j j1 j2 => by rw [kk j (by omega), c139])
    exact b.fr (uu_same (by rw [e 6 (by omega), hI1])) (fun a a1 a2 => by rw [e a (by omega), hI1]) (fun _ _ _ => rfl)
  · rw [e139, c139]
    exact (t2 hz).fr (uu_same (by rw [e 60 (by omega), r1 60 (by omega)])) (fun a a1 a2 => by rw [e a (by omega), r1 a (by omega)]) (fun _ _ _ => rfl)
  · rw [e (qm 33 p) (by unfold qm; omega), r1 (qm 33 p) (by unfold qm; omega)]; exact t3 p hp
/-- a step on the living's notes -/
theorem uTie.live (h : uTie I) (cf : cFar I I1 J J1) (rf : rFar I1 I2 J1 J2) (r : ∀ a, (a < 9 ∨ 20 < a) → I1 a = I a) (r139 : I2 139 = I1 139) (hn : uN I1 6 (kp I2)) : uTie I2 := by
  have e : ∀ a, a < 114 → I2 a = I1 a := fun a ha => (rf a (by omega)).1
  refine ⟨hn.fr (uu_same (by rw [e 6 (by omega)])) (fun a a1 a2 => e a (by omega)) (fun _ _ _ => rfl), fun h4 => ?_, fun p hp => ?_⟩
  · have : I 0 4 = 1 := by rw [← r 0 (by omega), ← e 0 (by omega)]; exact h4
    rw [r139, (cf 139 (by omega) (by omega)).1]
    exact (h.2.1 this).fr (uu_same (by rw [e 60 (by omega), r 60 (by omega)])) (fun a a1 a2 => by rw [e a (by omega), r a (by omega)]) (fun _ _ _ => rfl)
  · rw [e (qm 33 p) (by unfold qm; omega), r (qm 33 p) (by unfold qm; omega)]; exact h.2.2 p hp
theorem u_zero {K : qI} {a z k : Nat} (h : K a 3 = 0) (e : K a 3 = nI z) (hz : z ≤ 10) (hk : k < z) : False := by
  have := (nI_eq (a := 0) (b := z) (by omega) (by omega)).mp (show nI 0 = nI z from h.symm.trans e)
  omega
theorem uINV.see {p x n : Int32} (g : uINV S I J) (pK : ∃ c z, c ≤ 6 ∧ I 6 1 = nI c ∧ z ≤ 5 ∧ I 9 3 = nI z ∧ v = some (.int (ca_see c z p x n)) ∧ I1 = ci_see I c z p x n ∧ J1 = J) (cw : cW S S1 I I1) (hK : KQ0 S I J T v S1 I1 J1) (pR : v2 = some (.int (ga_Md_see I1 J1 p x n)) ∧ I2 = gi_Md_see I1 J1 p x n ∧ J2 = gj_Md_see I1 J1 p x n) (hV : RQ0 S1 I1 J1 T2 v2 S2 I2 J2) : uINV S2 I2 J2 := by
  refine ⟨g.1.see pK cw hK pR hV, ?_⟩
  have cf := hK.2.2.1
  have rf := hV.2.2.1
  have tie := g.1.1.2.2.2
  obtain ⟨c, z, c6, hc, z5, hz, -, hI1, rfl⟩ := pK
  obtain ⟨-, hI2, -⟩ := pR
  have hc1 : I1 114 0 = nI c := by rw [(cf 114 (by omega) (by omega)).1]; exact tie.1.1.trans hc
  have hz1 : I1 114 27 = nI z := by rw [(cf 114 (by omega) (by omega)).1]; exact tie.1.2.2.2.1.trans hz
  have r : ∀ a, (a < 9 ∨ 12 < a) → I1 a = I a := fun a ha => by rw [hI1]; exact ci_see_fr ha
  have hf1 : ∀ j, j < 117 → kp I1 j = kp I j := fun j hj => kp_far cf (by omega)
  unfold ci_see at hI1
  unfold gi_Md_see at hI2
  rw [hc1, hz1] at hI2
  have idn : I1 = I → I2 = I1 → uTie I2 := fun h1 h2 => g.2.frm cf rf (fun a _ => by rw [h1]) (by rw [h1]) (by rw [h2]; exact uFr.rf)
  obtain ⟨nS, nP, nB⟩ := g.2.1
  by_cases q0 : p = -1
  · rw [if_pos q0] at hI1 hI2
    have hf : ∀ j, 66 ≤ j → j < 117 → kp I2 j = kp I j := fun j j1 j2 => by rw [hI2, kp_u (n := 120) (by omega) kpa_nf27 j2, if_neg (by omega), hf1 j j2]
    refine g.2.live cf rf (fun a ha => r a (by omega)) (by rw [hI2, qup_row (by decide)]) ⟨fun z' k hz' e hk => ?_, nP.fr (uu_same (by rw [r 6 (by omega)])) (fun a a1 a2 => r a (by omega)) (fun j j1 j2 => hf j (by omega) (by omega)), nB.fr (uu_same (by rw [r 6 (by omega)])) (fun a a1 a2 => r a (by omega)) (fun j j1 j2 => hf j (by omega) (by omega))⟩
    exact (u_zero (K := I1) (a := 9) (by rw [hI1, qup_at]) e (by omega) hk).elim
  rw [if_neg q0] at hI1 hI2
  by_cases q1 : qwithin p 0 (nI c - 1) = 0
  · rw [if_pos q1] at hI1 hI2; exact idn hI1 hI2
  rw [if_neg q1] at hI1 hI2
  by_cases q2 : qwithin x 0 999 = 0
  · rw [if_pos q2] at hI1 hI2; exact idn hI1 hI2
  rw [if_neg q2] at hI1 hI2
  by_cases q3 : qwithin n 0 20 = 0
  · rw [if_pos q3] at hI1 hI2; exact idn hI1 hI2
  rw [if_neg q3] at hI1 hI2
  by_cases q4 : z < 5
  · have n4 : ¬ nI z = 5 := fun w => by
      have := (nI_eq (by omega) (by omega)).mp (show nI z = nI 5 from w)
      omega
    rw [if_pos q4] at hI1
    rw [if_neg n4, q1k, qcl (n := z) (by omega)] at hI2
    obtain ⟨s1, s2, s3⟩ := kpa_s1 z q4
    have kk : ∀ j, j < 117 → kp I2 j = if j = 76 + z then n else if j = 71 + z then x else if j = 66 + z then p else kp I j := fun j hj => by
      rw [hI2, kp_u (by omega) s3 hj, kp_u (by omega) kpa_nf27 hj, kp_u (by omega) s2 hj, kp_u (by omega) s1 hj, hf1 j hj]
      by_cases w : j = 76 + z
      · rw [if_pos w, if_pos w]
      · rw [if_neg w, if_neg w, if_neg (by omega)]
    have g3 : I1 9 3 = nI (z + 1) := by rw [hI1]; unfold qadd; rw [qup_at]
    have g10 : ∀ k, I1 10 k = if k = z then p else I 10 k := fun k => by
      rw [hI1]; unfold qadd
      rw [qup_o (by decide), qup_o (by decide), qup_o (by decide)]
      by_cases w : k = z
      · subst w; rw [qup_at, if_pos rfl]
      · rw [qup_j w, if_neg w]
    have g11 : ∀ k, I1 11 k = if k = z then x else I 11 k := fun k => by
      rw [hI1]; unfold qadd
      rw [qup_o (by decide), qup_o (by decide)]
      by_cases w : k = z
      · subst w; rw [qup_at, if_pos rfl]
      · rw [qup_j w, if_neg w, qup_o (by decide)]
    have g12 : ∀ k, I1 12 k = if k = z then n else I 12 k := fun k => by
      rw [hI1]; unfold qadd
      rw [qup_o (by decide)]
      by_cases w : k = z
      · subst w; rw [qup_at, if_pos rfl]
      · rw [qup_j w, if_neg w, qup_o (by decide), qup_o (by decide)]
    refine g.2.live cf rf (fun a ha => r a (by omega)) (by rw [hI2, qup_row (by decide), qup_row (by decide), qup_row (by decide), qup_row (by decide)]) ⟨fun z' k hz' e hk => ?_, nP.fr (uu_same (by rw [r 6 (by omega)])) (fun a a1 a2 => r a (by omega)) (fun j j1 j2 => by rw [kk j (by omega), if_neg (by omega), if_neg (by omega), if_neg (by omega)]), nB.fr (uu_same (by rw [r 6 (by omega)])) (fun a a1 a2 => r a (by omega)) (fun j j1 j2 => by rw [kk j (by omega), if_neg (by omega), if_neg (by omega), if_neg (by omega)])⟩
    have ez : z' = z + 1 := (nI_eq (by omega) (by omega)).mp ((show I1 9 3 = nI z' from e).symm.trans g3)
    show kp I2 (66 + k) = I1 10 k ∧ kp I2 (71 + k) = I1 11 k ∧ kp I2 (76 + k) = I1 12 k
    rw [g10, g11, g12, kk _ (by omega), kk _ (by omega), kk _ (by omega)]
    by_cases w : k = z
    · subst w
      rw [if_neg (by omega), if_neg (by omega), if_pos rfl, if_pos rfl, if_neg (by omega), if_pos rfl, if_pos rfl, if_pos rfl, if_pos rfl]
      exact ⟨rfl, rfl, rfl⟩
    · rw [if_neg (by omega), if_neg (by omega), if_neg (by omega), if_neg w, if_neg (by omega), if_neg (by omega), if_neg (by omega), if_neg w, if_neg (by omega), if_neg (by omega), if_neg (by omega), if_neg w]
      exact nS z k z5 hz (by omega)
  · have n4 : nI z = 5 := by rw [show z = 5 by omega]; rfl
    rw [if_neg q4] at hI1
    rw [if_pos n4] at hI2
    exact idn hI1 hI2
theorem uINV.book {p x : Int32} (g : uINV S I J) (pK : ∃ c z, c ≤ 6 ∧ I 6 1 = nI c ∧ z ≤ 8 ∧ I 17 3 = nI z ∧ v = some (.int (ca_book c z p x)) ∧ I1 = ci_book I c z p x ∧ J1 = J) (cw : cW S S1 I I1) (hK : KQ0 S I J T v S1 I1 J1) (pR : v2 = some (.int (ga_Md_book I1 J1 p x)) ∧ I2 = gi_Md_book I1 J1 p x ∧ J2 = gj_Md_book I1 J1 p x) (hV : RQ0 S1 I1 J1 T2 v2 S2 I2 J2) : uINV S2 I2 J2 := by
  refine ⟨g.1.book pK cw hK pR hV, ?_⟩
  have cf := hK.2.2.1
  have rf := hV.2.2.1
  have tie := g.1.1.2.2.2
  obtain ⟨c, z, c6, hc, z5, hz, -, hI1, rfl⟩ := pK
  obtain ⟨-, hI2, -⟩ := pR
  have hc1 : I1 114 0 = nI c := by rw [(cf 114 (by omega) (by omega)).1]; exact tie.1.1.trans hc
  have hz1 : I1 114 34 = nI z := by rw [(cf 114 (by omega) (by omega)).1]; exact tie.1.2.2.2.2.2.1.trans hz
  have r : ∀ a, (a < 17 ∨ 20 < a) → I1 a = I a := fun a ha => by rw [hI1]; exact ci_book_fr ha
  have hf1 : ∀ j, j < 117 → kp I1 j = kp I j := fun j hj => kp_far cf (by omega)
  unfold ci_book at hI1
  unfold gi_Md_book at hI2
  rw [hc1, hz1] at hI2
  have idn : I1 = I → I2 = I1 → uTie I2 := fun h1 h2 => g.2.frm cf rf (fun a _ => by rw [h1]) (by rw [h1]) (by rw [h2]; exact uFr.rf)
  obtain ⟨nS, nP, nB⟩ := g.2.1
  have c61 : I1 6 1 = I 6 1 := by rw [r 6 (by omega)]
  by_cases q0 : p = -1
  · rw [if_pos q0] at hI1 hI2
    have hf : ∀ j, 66 ≤ j → j < 117 → kp I2 j = kp I j := fun j j1 j2 => by rw [hI2, kp_u (n := 122) (by omega) kpa_nf34 j2, if_neg (by omega), hf1 j j2]
    refine g.2.live cf rf (fun a ha => r a (by omega)) (by rw [hI2, qup_row (by decide)]) ⟨nS.fr (fun a a1 a2 => r a (by omega)) (fun j j1 j2 => hf j (by omega) (by omega)), nP.fr (uu_same c61) (fun a a1 a2 => r a (by omega)) (fun j j1 j2 => hf j (by omega) (by omega)), fun z' k hz' e hk => ?_⟩
    exact (u_zero (K := I1) (a := 17) (by rw [hI1, qup_at]) e (by omega) hk).elim
  rw [if_neg q0] at hI1 hI2
  by_cases q1 : qwithin p 0 (nI c - 1) = 0
  · rw [if_pos q1] at hI1 hI2; exact idn hI1 hI2
  rw [if_neg q1] at hI1 hI2
  obtain ⟨m, m1, em⟩ := qisM_y (show c < 2 ^ 31 by omega) q1
  by_cases q2 : qwithin x 0 99999 = 0
  · rw [if_pos q2] at hI1 hI2; exact idn hI1 hI2
  rw [if_neg q2] at hI1 hI2
  by_cases q4 : z < 8
  · have n4 : ¬ nI z = 8 := fun w => by
      have := (nI_eq (by omega) (by omega)).mp (show nI z = nI 8 from w)
      omega
    rw [if_pos q4] at hI1
    rw [if_neg n4, q1k, qcl (n := z) (by omega)] at hI2
    obtain ⟨s1, s2⟩ := kpa_s3 z q4
    have kk : ∀ j, j < 117 → kp I2 j = if j = 109 + z then x else if j = 101 + z then p else kp I j := fun j hj => by
      rw [hI2, kp_u (by omega) s2 hj, kp_u (by omega) kpa_nf34 hj, kp_u (by omega) s1 hj, hf1 j hj]
      by_cases w : j = 109 + z
      · rw [if_pos w, if_pos w]
      · rw [if_neg w, if_neg w, if_neg (by omega)]
    have g3 : I1 17 3 = nI (z + 1) := by rw [hI1]; unfold qadd; rw [qup_at]
    have g18 : ∀ k, I1 18 k = if k = z then p else I 18 k := fun k => by
      rw [hI1]; unfold qadd
      rw [qup_o (by decide), qup_o (by decide), qup_o (by decide)]
      by_cases w : k = z
      · subst w; rw [qup_at, if_pos rfl]
      · rw [qup_j w, if_neg w]
    have g19 : ∀ k, I1 19 k = if k = z then x else I 19 k := fun k => by
      rw [hI1]; unfold qadd
      rw [qup_o (by decide), qup_o (by decide)]
      by_cases w : k = z
      · subst w; rw [qup_at, if_pos rfl]
      · rw [qup_j w, if_neg w, qup_o (by decide)]
    refine g.2.live cf rf (fun a ha => r a (by omega)) (by rw [hI2, qup_row (by decide), qup_row (by decide), qup_row (by decide)]) ⟨nS.fr (fun a a1 a2 => r a (by omega)) (fun j j1 j2 => by rw [kk j (by omega), if_neg (by omega), if_neg (by omega)]), nP.fr (uu_same c61) (fun a a1 a2 => r a (by omega)) (fun j j1 j2 => by rw [kk j (by omega), if_neg (by omega), if_neg (by omega)]), fun z' k hz' e hk => ?_⟩
    have ez : z' = z + 1 := (nI_eq (by omega) (by omega)).mp ((show I1 17 3 = nI z' from e).symm.trans g3)
    show kp I2 (101 + k) = I1 18 k ∧ kp I2 (109 + k) = I1 19 k ∧ ∃ c p, c ≤ 6 ∧ I1 6 1 = nI c ∧ p < c ∧ I1 18 k = nI p
    rw [g18, g19, kk _ (by omega), kk _ (by omega), c61]
    by_cases w : k = z
    · subst w
      rw [if_neg (by omega), if_pos rfl, if_pos rfl, if_pos rfl, if_pos rfl]
      exact ⟨rfl, rfl, c, m, c6, hc, m1, em⟩
    · rw [if_neg (by omega), if_neg (by omega), if_neg w, if_neg (by omega), if_neg (by omega), if_neg w]
      exact nB z k z5 hz (by omega)
  · have n4 : nI z = 8 := by rw [show z = 8 by omega]; rfl
    rw [if_neg q4] at hI1
    rw [if_pos n4] at hI2
    exact idn hI1 hI2
theorem uINV.plan {x p : Int32} (g : uINV S I J) (pK : ∃ c z, c ≤ 6 ∧ I 6 1 = nI c ∧ z ≤ 10 ∧ I 13 3 = nI z ∧ v = some (.int (ca_plan c z x p)) ∧ I1 = ci_plan I c z x p ∧ J1 = J) (cw : cW S S1 I I1) (hK : KQ0 S I J T v S1 I1 J1) (pR : v2 = some (.int (ga_Md_plan I1 J1 x p)) ∧ I2 = gi_Md_plan I1 J1 x p ∧ J2 = gj_Md_plan I1 J1 x p) (hV : RQ0 S1 I1 J1 T2 v2 S2 I2 J2) : uINV S2 I2 J2 := by
  refine ⟨g.1.plan pK cw hK pR hV, ?_⟩
  have cf := hK.2.2.1
  have rf := hV.2.2.1
  have tie := g.1.1.2.2.2
  obtain ⟨c, z, c6, hc, z5, hz, -, hI1, rfl⟩ := pK
  obtain ⟨-, hI2, -⟩ := pR
  have hc1 : I1 114 0 = nI c := by rw [(cf 114 (by omega) (by omega)).1]; exact tie.1.1.trans hc
  have hz1 : I1 114 31 = nI z := by rw [(cf 114 (by omega) (by omega)).1]; exact tie.1.2.2.2.2.1.trans hz
  have r : ∀ a, (a < 13 ∨ 16 < a) → I1 a = I a := fun a ha => by rw [hI1]; exact ci_plan_fr ha
  have hf1 : ∀ j, j < 117 → kp I1 j = kp I j := fun j hj => kp_far cf (by omega)
  unfold ci_plan at hI1
  unfold gi_Md_plan at hI2
  rw [hc1, hz1] at hI2
  have idn : I1 = I → I2 = I1 → uTie I2 := fun h1 h2 => g.2.frm cf rf (fun a _ => by rw [h1]) (by rw [h1]) (by rw [h2]; exact uFr.rf)
  obtain ⟨nS, nP, nB⟩ := g.2.1
  have c61 : I1 6 1 = I 6 1 := by rw [r 6 (by omega)]
  by_cases q0 : x = -1
  · rw [if_pos q0] at hI1 hI2
    have hf : ∀ j, 66 ≤ j → j < 117 → kp I2 j = kp I j := fun j j1 j2 => by rw [hI2, kp_u (n := 121) (by omega) kpa_nf31 j2, if_neg (by omega), hf1 j j2]
    refine g.2.live cf rf (fun a ha => r a (by omega)) (by rw [hI2, qup_row (by decide)]) ⟨nS.fr (fun a a1 a2 => r a (by omega)) (fun j j1 j2 => hf j (by omega) (by omega)), fun z' k hz' e hk => ?_, nB.fr (uu_same c61) (fun a a1 a2 => r a (by omega)) (fun j j1 j2 => hf j (by omega) (by omega))⟩
    exact (u_zero (K := I1) (a := 13) (by rw [hI1, qup_at]) e (by omega) hk).elim
  rw [if_neg q0] at hI1 hI2
  by_cases q1 : qwithin x 0 3 = 0
  · rw [if_pos q1] at hI1 hI2; exact idn hI1 hI2
  rw [if_neg q1] at hI1 hI2
  have x0 : 0 ≤ x := (qwithin_y q1).1
  have add : ∀ y : Int32, (x = 0 ∨ (y = p ∧ ∃ m, m < c ∧ p = nI m)) → z < 10 → I1 = qadd I 13 z x p 0 → I2 = qup (qup (qup I1 134 z x) 114 31 (nI (z + 1))) 135 z y → uTie I2 := by
    intro y hy q4 hI1 hI2
    obtain ⟨s1, s2⟩ := kpa_s2 z q4
    have kk : ∀ j, j < 117 → kp I2 j = if j = 91 + z then y else if j = 81 + z then x else kp I j := fun j hj => by
      rw [hI2, kp_u (by omega) s2 hj, kp_u (by omega) kpa_nf31 hj, kp_u (by omega) s1 hj, hf1 j hj]
      by_cases w : j = 91 + z
      · rw [if_pos w, if_pos w]
      · rw [if_neg w, if_neg w, if_neg (by omega)]
    have g3 : I1 13 3 = nI (z + 1) := by rw [hI1]; unfold qadd; rw [qup_at]
    have g14 : ∀ k, I1 14 k = if k = z then x else I 14 k := fun k => by
      rw [hI1]; unfold qadd
      rw [qup_o (by decide), qup_o (by decide), qup_o (by decide)]
      by_cases w : k = z
      · subst w; rw [qup_at, if_pos rfl]
      · rw [qup_j w, if_neg w]
    have g15 : ∀ k, I1 15 k = if k = z then p else I 15 k := fun k => by
      rw [hI1]; unfold qadd
      rw [qup_o (by decide), qup_o (by decide)]
      by_cases w : k = z
      · subst w; rw [qup_at, if_pos rfl]
      · rw [qup_j w, if_neg w, qup_o (by decide)]
    refine g.2.live cf rf (fun a ha => r a (by omega)) (by rw [hI2, qup_row (by decide), qup_row (by decide), qup_row (by decide)]) ⟨nS.fr (fun a a1 a2 => r a (by omega)) (fun j j1 j2 => by rw [kk j (by omega), if_neg (by omega), if_neg (by omega)]), fun z' k hz' e hk => ?_, nB.fr (uu_same c61) (fun a a1 a2 => r a (by omega)) (fun j j1 j2 => by rw [kk j (by omega), if_neg (by omega), if_neg (by omega)])⟩
    have ez : z' = z + 1 := (nI_eq (by omega) (by omega)).mp ((show I1 13 3 = nI z' from e).symm.trans g3)
    show kp I2 (81 + k) = I1 14 k ∧ (I1 14 k = 0 ∨ (kp I2 (91 + k) = I1 15 k ∧ ∃ c p, c ≤ 6 ∧ I1 6 1 = nI c ∧ p < c ∧ I1 15 k = nI p))
    rw [g14, g15, kk _ (by omega), kk _ (by omega), c61]
    by_cases w : k = z
    · subst w
      rw [if_neg (by omega), if_pos rfl, if_pos rfl, if_pos rfl, if_pos rfl]
      refine ⟨rfl, hy.imp id (fun q => ?_)⟩
      obtain ⟨q1, m, m1, em⟩ := q
      exact ⟨q1, c, m, c6, hc, m1, em⟩
    · rw [if_neg (by omega), if_neg (by omega), if_neg w, if_neg (by omega), if_neg (by omega), if_neg w]
      exact nP z k z5 hz (by omega)
  have n4 : z < 10 → ¬ nI z = 10 := fun q4 w => by
    have := (nI_eq (by omega) (by omega)).mp (show nI z = nI 10 from w)
    omega
  by_cases q2 : x = 0
  · rw [if_neg (fun q => q.1 q2)] at hI1
    rw [if_pos (show x ≤ 0 by rw [q2]; exact Int32.le_refl 0)] at hI2
    by_cases q4 : z < 10
    · rw [if_pos q4] at hI1
      rw [if_neg (n4 q4), if_pos q2, q1k, qcl (n := z) (by omega)] at hI2
      exact add 0 (Or.inl q2) q4 hI1 hI2
    · rw [if_neg q4] at hI1
      rw [if_pos (show nI z = 10 by rw [show z = 10 by omega]; rfl)] at hI2
      exact idn hI1 hI2
  · rw [if_neg (show ¬ x ≤ 0 from fun q => q2 (Int32.le_antisymm q x0))] at hI2
    by_cases q3 : qwithin p 0 (nI c - 1) = 0
    · rw [if_pos ⟨q2, q3⟩] at hI1
      rw [if_pos q3] at hI2
      exact idn hI1 hI2
    · rw [if_neg (fun q => q3 q.2)] at hI1
      rw [if_neg q3] at hI2
      by_cases q4 : z < 10
      · rw [if_pos q4] at hI1
        rw [if_neg (n4 q4), if_neg q2, q1k, qcl (n := z) (by omega)] at hI2
        exact add p (Or.inr ⟨rfl, qisM_y (by omega) q3⟩) q4 hI1 hI2
      · rw [if_neg q4] at hI1
        rw [if_pos (show nI z = 10 by rw [show z = 10 by omega]; rfl)] at hI2
        exact idn hI1 hI2
end U9
