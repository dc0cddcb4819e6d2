/-! class and reference side by side: the image, what comes back; what touches no hurt -/
theorem qbecN_h {I : qI} {o q : Nat} (hap : qApM o q) : ∀ n, n ≤ 6 → ∀ p, p < n → ∀ j, 3 ≤ j → j < 7 → qbecN I o q n (qm o p) j = I (qm q p) j := by
  intro n
  induction n with
  | zero => intro _ p hp; omega
  | succ n ih =>
    intro hn p hp j h1 h2
    have hap0 := hap
    unfold qApM at hap
    rw [qbecN]
    by_cases w : p = n
    · subst w
      have s1 : qbecN I o q p (qm q p) = I (qm q p) := qbecN_row p (by omega) (by unfold qm; omega)
      unfold qbecomes
      rcases (by omega : j = 3 ∨ j = 4 ∨ j = 5 ∨ j = 6) with rfl | rfl | rfl | rfl
      · rw [qfil_o (by omega), qup_j (by decide), qup_j (by decide), qup_j (by decide), qup_at, s1]
      · rw [qfil_o (by omega), qup_j (by decide), qup_j (by decide), qup_at, s1]
      · rw [qfil_o (by omega), qup_j (by decide), qup_at, s1]
      · rw [qfil_o (by omega), qup_at, s1]
    · rw [qbecomes_row (by unfold qm; omega) (by unfold qm; omega)]
      exact ih (by omega) p (by omega) j h1 h2
theorem vH.bec {I : qI} {f f' : Nat → Int32} {o q D : Nat} (h : vH I q f) (hok : qMgOK I q D) (hap : qApM o q) (hf : ∀ j, 12 ≤ j → j < 36 → f' j = f j) : vH (qmbec I o q) o f' := by
  obtain ⟨⟨c, c6, hc⟩, -⟩ := hok
  intro c' p hc' e hp
  have ec : c' = c := (nI_eq (by omega) (by omega)).mp (e.symm.trans (qmbec_1 hc c6))
  subst ec
  have s : ∀ j, 3 ≤ j → j < 7 → qmbec I o q (qm o p) j = I (qm q p) j := fun j h1 h2 => by
    rw [qmbec_m hc c6 (by omega), qbecN_h hap c' c6 p hp j h1 h2, qup_row (by unfold qApM at hap; unfold qm; omega)]
  obtain ⟨b1, b2, b3, b4, b5, b6, b7⟩ := h c' p c6 hc hp
  rw [hf _ (by omega) (by omega), hf _ (by omega) (by omega), hf _ (by omega) (by omega), hf _ (by omega) (by omega), s 3 (by omega) (by omega), s 4 (by omega) (by omega), s 5 (by omega) (by omega), s 6 (by omega) (by omega)]
  exact ⟨b1, b2, b3, b4, b5, b6, b7⟩
theorem vINV.image {S S1 S2 : qSh} {I I1 I2 : qI} {J J1 J2 : qJ} {T T2 : qI → Prop} {v v2 : Option Value} (g : vINV S I J) (pK : I1 = qup (qmbec I 60 6) 0 4 1 ∧ J1 = J ∧ qMgOK I 6 9999) (cw : cWi S S1 I I1) (hK : KQ0 S I J T v S1 I1 J1) (pR : (∀ j, j < 124 → I2 139 j = kp I1 j) ∧ (∀ j, j < 124 → kp I2 j = kp I1 j) ∧ I2 114 39 = 1 ∧ (I2 114 37 = I1 114 37 ∧ I2 138 = I1 138) ∧ (I2 114 17 = I1 114 17 ∧ I2 114 11 = I1 114 11 ∧ I2 123 = I1 123) ∧ (∀ a, 145 ≤ a → a ≤ 147 → I2 a = I1 a) ∧ J2 = J1) (rw : rW I1 I2) (hV : RQ0 S1 I1 J1 T2 v2 S2 I2 J2) : vINV S2 I2 J2 := by
  refine ⟨g.1.image pK hK pR hV, ?_⟩
  have cf := hK.2.2.1
  obtain ⟨hS, -, rf, -⟩ := hV
  subst hS
  obtain ⟨hI1, -, hok⟩ := pK
  obtain ⟨k139, kk, -⟩ := pR
  obtain ⟨t1, t2, t3⟩ := g.2
  obtain ⟨c1, c2, c3⟩ := cw
  have ap : qApM 60 6 := by unfold qApM; omega
  have r1 : ∀ a, a ≠ 0 → (a < 60 ∨ 86 < a) → I1 a = I a := fun a a0 ha => by rw [hI1, qup_row a0, qmbec_row hok (by omega)]
  have r60 : ∀ a, 60 ≤ a → I1 a = qmbec I 60 6 a := fun a ha => by rw [hI1, qup_row (by omega)]
  have kk2 : ∀ j, j < 124 → kp I2 j = kp I j := fun j hj => by rw [kk j hj, kp_far cf hj]
  have c114 := (cf 114 (by omega) (by omega)).1
  have e18 : I2 114 18 = I 114 18 := by rw [rw.1, c114]
  have e25 : I2 114 25 = I 114 25 := by rw [rw.2.1, c114]
  have il : ∀ w, qR S 6 5 = some w → xIl I2 I2 w (I 114 18) := fun w hw => by
    have hq := g.1.w6 w (Or.inl hw)
    unfold qW1 at hq
    exact (t1 w hw).fr (fun b hb => by rw [(rf (w + b) (by omega)).1, c3 w hw b hb]) (fun a ha => by rw [rw.2.2 a ha.1 ha.2, (cf a (by omega) (by omega)).1]) e25
  refine ⟨fun w hw => ?_, ?_, fun _ => ⟨fun w hw => ?_, ?_⟩⟩
  · rw [c1] at hw
    rw [e18]
    exact il w hw
  · exact t2.rows (fun a a1 a2 => by rw [(rf a (by omega)).1, r1 a (by omega) (by omega)]) (fun j _ h2 => kk2 j (by omega))
  · rw [c2] at hw
    have e : I2 139 123 = I 114 18 := by
      rw [k139 123 (by omega), kp_far cf (by omega)]; unfold kp; rw [kpa_nf18]
    rw [e]
    exact il w hw
  · have b : vH (qmbec I 60 6) 60 (I2 139) := t2.bec hok ap (fun j _ h2 => by rw [k139 j (by omega), kp_far cf (by omega)])
    exact b.rows (fun a a1 a2 => by rw [(rf a (by omega)).1, r60 a a1]) (fun j _ _ => rfl)
theorem vINV.undo1 {S S1 S2 : qSh} {I I1 I2 : qI} {J J1 J2 : qJ} {T T2 : qI → Prop} {v v2 : Option Value} (g : vINV S I J) (hz : I 0 4 = 1) (pK : I1 = qmbec I 6 60 ∧ J1 = J ∧ qMgOK I 60 9999) (cw : cWu S S1 I I1) (hK : KQ0 S I J T v S1 I1 J1) (pR : (∀ j, j < 124 → kp I2 j = I1 139 j) ∧ I2 139 = I1 139 ∧ (I2 114 37 = I1 114 37 ∧ I2 138 = I1 138) ∧ (I2 114 17 = I1 114 17 ∧ I2 114 11 = I1 114 11 ∧ I2 123 = I1 123) ∧ (∀ a, 145 ≤ a → a ≤ 147 → I2 a = I1 a) ∧ J2 = J1) (rw : I2 114 25 = I1 114 25 ∧ ∀ a, 124 ≤ a → a ≤ 129 → I2 a = I1 a) (h39 : I2 114 39 = 1) (hV : RQ0 S1 I1 J1 T2 v2 S2 I2 J2) : vINV S2 I2 J2 := by
  refine ⟨g.1.undo1 hz pK hK pR h39 hV, ?_⟩
  have cf := hK.2.2.1
  obtain ⟨hS, -, rf, -⟩ := hV
  subst hS
  obtain ⟨hI1, -, hok⟩ := pK
  obtain ⟨kk, e139, -⟩ := pR
  obtain ⟨t1, t2, t3⟩ := g.2
  obtain ⟨u1, u2⟩ := t3 hz
  obtain ⟨c1, c2, c3⟩ := cw
  have ap : qApM 6 60 := by unfold qApM; omega
  have r1 : ∀ a, (a < 6 ∨ 32 < a) → I1 a = I a := fun a ha => by rw [hI1, qmbec_row hok (by omega)]
  have e139' : I1 139 = I 139 := (cf 139 (by omega) (by omega)).1
  have c114 := (cf 114 (by omega) (by omega)).1
  have e25 : I2 114 25 = I 114 25 := by rw [rw.1, c114]
  have e18 : I2 114 18 = I 139 123 := by
    have := kk 123 (by omega)
    unfold kp at this
    rw [kpa_nf18] at this
    rw [this, e139']
  have il : ∀ w, qR S 60 5 = some w → xIl I2 I2 w (I 139 123) := fun w hw => by
    have hq := g.1.w6 w (Or.inr hw)
    unfold qW1 at hq
    exact (u1 w hw).fr (fun b hb => by rw [(rf (w + b) (by omega)).1, c3 w hw b hb]) (fun a ha => by rw [rw.2 a ha.1 ha.2, (cf a (by omega) (by omega)).1]) e25
  refine ⟨fun w hw => ?_, ?_, fun _ => ⟨fun w hw => ?_, ?_⟩⟩
  · rw [c1] at hw
    rw [e18]
    exact il w hw
  · have b : vH (qmbec I 6 60) 6 (kp I2) := u2.bec hok ap (fun j _ h2 => by rw [kk j (by omega), e139'])
    exact b.rows (fun a a1 a2 => by rw [(rf a (by omega)).1, hI1]) (fun j _ _ => rfl)
  · rw [c2] at hw
    rw [e139, e139']
    exact il w hw
  · rw [e139, e139']
    exact u2.rows (fun a a1 a2 => by rw [(rf a (by omega)).1, r1 a (by omega)]) (fun j _ _ => rfl)
/-- a call that touches no hurt: the rows of the object it leaves -/
theorem vINV.frm {S S1 S2 : qSh} {I I1 I2 : qI} {J J1 J2 : qJ} {T T2 : qI → Prop} {v v2 : Option Value} (g : vINV S I J) (cw : cW S S1 I I1) (hK : KQ0 S I J T v S1 I1 J1) (hV : RQ0 S1 I1 J1 T2 v2 S2 I2 J2) (r : ∀ a, (a = 0 ∨ (60 ≤ a ∧ a ≤ 86)) → I1 a = I a) (e61 : I1 6 1 = I 6 1) (rm : ∀ p j, p < 6 → j < 7 → I1 (qm 6 p) j = I (qm 6 p) j) (gf : gFr I1 I2) : vTie S2 I2 :=
  g.still cw hK hV (by rw [r 0 (by omega)]) (fun a a1 a2 => r a (by omega)) e61 rm gf.rw gf.i gf.kk
section V37
variable {S S1 S2 : qSh} {I I1 I2 : qI} {J J1 J2 : qJ} {T T2 : qI → Prop} {v v2 : Option Value}
theorem vINV.row {p r n : Int32} (g : vINV S I J) (pK : ∃ c, c ≤ 6 ∧ I 6 1 = nI c ∧ v = some (.int (ca_row I c p r n)) ∧ I1 = ci_row I c p r n ∧ J1 = J) (cw : cW S S1 I I1) (hK : KQ0 S I J T v S1 I1 J1) (pR : v2 = some (.int (ga_Md_row I1 J1 p r n)) ∧ I2 = gi_Md_row I1 J1 p r n ∧ J2 = gj_Md_row I1 J1 p r n) (hV : RQ0 S1 I1 J1 T2 v2 S2 I2 J2) : vINV S2 I2 J2 := by
  refine ⟨(g.1.row pK hK pR hV).1, ?_⟩
  obtain ⟨c, c6, hc, -, hI1, -⟩ := pK
  obtain ⟨-, hI2, -⟩ := pR
  refine g.frm cw hK hV (fun a ha => by rw [hI1]; exact ci_row_fr c6 (by omega)) (by rw [hI1, ci_row_fr c6 (by omega)]) (fun q j hq _ => ?_) (by rw [hI2]; exact gFr_row)
  rw [hI1]
  unfold ci_row
  by_cases q0 : qwithin p 0 (nI c - 1) = 0
  · rw [if_pos q0]
  rw [if_neg q0]
  obtain ⟨m, m1, rfl⟩ := qisM_y (show c < 2 ^ 31 by omega) q0
  rw [qcl (n := m) (by omega)]
  (repeat' split) <;> first | rfl | (rw [qup_row (by unfold qm; omega)])
theorem vINV.list {p : Int32} (g : vINV S I J) (pK : ∃ c l, c ≤ 6 ∧ I 6 1 = nI c ∧ l ≤ 6 ∧ I 6 3 = nI l ∧ v = some (.int (ca_list I c l p)) ∧ I1 = ci_list I c l p ∧ J1 = J) (cw : cW S S1 I I1) (hK : KQ0 S I J T v S1 I1 J1) (pR : ∃ l, l ≤ 6 ∧ I1 114 8 = nI l ∧ v2 = some (.int (ga_Md_list I1 J1 l p)) ∧ I2 = gi_Md_list I1 J1 l p ∧ J2 = gj_Md_list I1 J1 l p) (hV : RQ0 S1 I1 J1 T2 v2 S2 I2 J2) : vINV S2 I2 J2 := by
  refine ⟨(g.1.list pK hK pR hV).1, ?_⟩
  obtain ⟨c, l, c6, hc, l6, hl, -, hI1, -⟩ := pK
  obtain ⟨l', l6', hl', -, hI2, -⟩ := pR
  refine g.frm cw hK hV (fun a ha => by rw [hI1]; exact ci_list_fr (by omega) (by omega)) ?_ (fun q j hq _ => by rw [hI1, ci_list_fr (by unfold qm; omega) (by unfold qm; omega)]) (by rw [hI2]; exact gFr_list)
  rw [hI1]
  unfold ci_list
  (repeat' split) <;> first | rfl | (rw [qup_j (by decide)]) | (rw [qup_j (by decide), qup_o (by decide)])
theorem vINV.swap {p q : Int32} (g : vINV S I J) (pK : ∃ c l, c ≤ 6 ∧ I 6 1 = nI c ∧ l ≤ 6 ∧ I 6 3 = nI l ∧ v = some (.int (ca_swap I c l p q)) ∧ I1 = ci_swap I c l p q ∧ J1 = J) (cw : cW S S1 I I1) (hK : KQ0 S I J T v S1 I1 J1) (pR : ∃ l, l ≤ 6 ∧ I1 114 8 = nI l ∧ v2 = some (.int (ga_Md_swap I1 J1 l p q)) ∧ I2 = gi_Md_swap I1 J1 l p q ∧ J2 = gj_Md_swap I1 J1 l p q) (hV : RQ0 S1 I1 J1 T2 v2 S2 I2 J2) : vINV S2 I2 J2 := by
  refine ⟨(g.1.swap pK hK pR hV).1, ?_⟩
  obtain ⟨c, l, c6, hc, l6, hl, -, hI1, -⟩ := pK
  obtain ⟨l', l6', hl', -, hI2, -⟩ := pR
  have r1 : ∀ a, a ≠ 8 → I1 a = I a := fun a ha => by rw [hI1]; exact ci_swap_fr ha
  exact g.frm cw hK hV (fun a ha => r1 a (by omega)) (by rw [r1 6 (by omega)]) (fun q j hq _ => by rw [r1 (qm 6 q) (by unfold qm; omega)]) (by rw [hI2]; exact gFr_swap)
theorem vINV.see {p x n : Int32} (g : vINV S I J) (pK : ∃ c z, c ≤ 6 ∧ I 6 1 = nI c ∧ z ≤ 5 ∧ I 9 3 = nI z ∧ v = some (.int (ca_see c z p x n)) ∧ I1 = ci_see I c z p x n ∧ J1 = J) (cw : cW S S1 I I1) (hK : KQ0 S I J T v S1 I1 J1) (pR : v2 = some (.int (ga_Md_see I1 J1 p x n)) ∧ I2 = gi_Md_see I1 J1 p x n ∧ J2 = gj_Md_see I1 J1 p x n) (hV : RQ0 S1 I1 J1 T2 v2 S2 I2 J2) : vINV S2 I2 J2 := by
  refine ⟨(g.1.see pK hK pR hV).1, ?_⟩
  obtain ⟨c, z, -, -, -, -, -, hI1, -⟩ := pK
  obtain ⟨-, hI2, -⟩ := pR
  have r1 : ∀ a, (a < 9 ∨ 12 < a) → I1 a = I a := fun a ha => by rw [hI1]; exact ci_see_fr ha
  exact g.frm cw hK hV (fun a ha => r1 a (by omega)) (by rw [r1 6 (by omega)]) (fun q j hq _ => by rw [r1 (qm 6 q) (by unfold qm; omega)]) (by rw [hI2]; exact gFr_see)
theorem vINV.plan {x p : Int32} (g : vINV S I J) (pK : ∃ c z, c ≤ 6 ∧ I 6 1 = nI c ∧ z ≤ 10 ∧ I 13 3 = nI z ∧ v = some (.int (ca_plan c z x p)) ∧ I1 = ci_plan I c z x p ∧ J1 = J) (cw : cW S S1 I I1) (hK : KQ0 S I J T v S1 I1 J1) (pR : v2 = some (.int (ga_Md_plan I1 J1 x p)) ∧ I2 = gi_Md_plan I1 J1 x p ∧ J2 = gj_Md_plan I1 J1 x p) (hV : RQ0 S1 I1 J1 T2 v2 S2 I2 J2) : vINV S2 I2 J2 := by
  refine ⟨(g.1.plan pK hK pR hV).1, ?_⟩
  obtain ⟨c, z, -, -, -, -, -, hI1, -⟩ := pK
  obtain ⟨-, hI2, -⟩ := pR
  have r1 : ∀ a, (a < 13 ∨ 16 < a) → I1 a = I a := fun a ha => by rw [hI1]; exact ci_plan_fr ha
  exact g.frm cw hK hV (fun a ha => r1 a (by omega)) (by rw [r1 6 (by omega)]) (fun q j hq _ => by rw [r1 (qm 6 q) (by unfold qm; omega)]) (by rw [hI2]; exact gFr_plan)
theorem vINV.book {p x : Int32} (g : vINV S I J) (pK : ∃ c z, c ≤ 6 ∧ I 6 1 = nI c ∧ z ≤ 8 ∧ I 17 3 = nI z ∧ v = some (.int (ca_book c z p x)) ∧ I1 = ci_book I c z p x ∧ J1 = J) (cw : cW S S1 I I1) (hK : KQ0 S I J T v S1 I1 J1) (pR : v2 = some (.int (ga_Md_book I1 J1 p x)) ∧ I2 = gi_Md_book I1 J1 p x ∧ J2 = gj_Md_book I1 J1 p x) (hV : RQ0 S1 I1 J1 T2 v2 S2 I2 J2) : vINV S2 I2 J2 := by
  refine ⟨(g.1.book pK hK pR hV).1, ?_⟩
  obtain ⟨c, z, -, -, -, -, -, hI1, -⟩ := pK
  obtain ⟨-, hI2, -⟩ := pR
  have r1 : ∀ a, (a < 17 ∨ 20 < a) → I1 a = I a := fun a ha => by rw [hI1]; exact ci_book_fr ha
  exact g.frm cw hK hV (fun a ha => r1 a (by omega)) (by rw [r1 6 (by omega)]) (fun q j hq _ => by rw [r1 (qm 6 q) (by unfold qm; omega)]) (by rw [hI2]; exact gFr_book)
theorem vINV.feed {x : Int32} (g : vINV S I J) (pK : ∃ z, z ≤ 100 ∧ I 87 1 = nI z ∧ v = some (.int (ca_feed z x)) ∧ I1 = ci_feed I z x ∧ J1 = J) (cw : cW S S1 I I1) (hK : KQ0 S I J T v S1 I1 J1) (pR : v2 = some (.int (ga_Md_feed I1 J1 x)) ∧ I2 = gi_Md_feed I1 J1 x ∧ J2 = gj_Md_feed I1 J1 x) (hV : RQ0 S1 I1 J1 T2 v2 S2 I2 J2) : vINV S2 I2 J2 := by
  refine ⟨(g.1.feed pK hK pR hV).1, ?_⟩
  obtain ⟨z, -, -, -, hI1, -⟩ := pK
  obtain ⟨-, hI2, -⟩ := pR
  have r1 : ∀ a, a ≠ 87 → a ≠ 88 → I1 a = I a := fun a h1 h2 => by rw [hI1]; exact ci_feed_fr h1 h2
  exact g.frm cw hK hV (fun a ha => r1 a (by omega) (by omega)) (by rw [r1 6 (by omega) (by omega)]) (fun q j hq _ => by rw [r1 (qm 6 q) (by unfold qm; omega) (by unfold qm; omega)]) (by rw [hI2]; exact gFr_feed)
theorem vINV.tape {tp s n : Int32} (g : vINV S I J) (pK : I1 = ci_tape I tp s n ∧ J1 = cj_tape J tp s n) (cw : cW S S1 I I1) (hK : KQ0 S I J T v S1 I1 J1) (pR : xTp I1 J1 tp s n I2 J2) (hV : RQ0 S1 I1 J1 T2 v2 S2 I2 J2) : vINV S2 I2 J2 := by
  refine ⟨g.1.tape pK hK pR hV, ?_⟩
  obtain ⟨hI1, -⟩ := pK
  have r1 : ∀ a, a < 102 → I1 a = I a := fun a ha => by rw [hI1]; exact ci_tape_fr (by omega)
  refine g.frm cw hK hV (fun a ha => r1 a (by omega)) (by rw [r1 6 (by omega)]) (fun q j hq _ => by rw [r1 (qm 6 q) (by unfold qm; omega)]) ?_
  rcases pR with ⟨-, h, -⟩ | ⟨t, -, -, -, -, -, h, -⟩
  · rw [h]; exact gFr.rf
  · rw [h]; exact (gFr.rf.up (by omega)).up (by omega)
theorem vINV.item {tp i : Int32} {z : Int64} (g : vINV S I J) (pK : v = some (.int (ca_item I tp i)) ∧ I1 = I ∧ J1 = cj_item I J tp i z) (cw : cW S S1 I I1) (hK : KQ0 S I J T v S1 I1 J1) (pR : v2 = some (.int (ga_Md_item I1 J1 tp i z)) ∧ I2 = I1 ∧ J2 = gj_Md_item I1 J1 tp i z) (hV : RQ0 S1 I1 J1 T2 v2 S2 I2 J2) : vINV S2 I2 J2 := by
  refine ⟨(g.1.item pK hK pR hV).1, ?_⟩
  have h1 := pK.2.1
  have h2 := pR.2.1
  exact g.frm cw hK hV (fun a _ => by rw [h1]) (by rw [h1]) (fun _ _ _ _ => by rw [h1]) (by rw [h2]; exact gFr.rf)
theorem vINV.shift {tp i tq j n : Int32} (g : vINV S I J) (pK : v = some (.int (ca_shift I tp i tq j n)) ∧ I1 = I ∧ J1 = cj_shift I J tp i tq j n) (cw : cW S S1 I I1) (hK : KQ0 S I J T v S1 I1 J1) (pR : qSh1 S1 I1 J1 tp i tq j n v2 S2 I2 J2) (hV : RQ0 S1 I1 J1 T2 v2 S2 I2 J2) : vINV S2 I2 J2 := by
  refine ⟨(g.1.shift pK hK pR hV).1, ?_⟩
  have h1 := pK.2.1
  have h2 : I2 = I1 := pR.2.1.symm
  exact g.frm cw hK hV (fun a _ => by rw [h1]) (by rw [h1]) (fun _ _ _ _ => by rw [h1]) (by rw [h2]; exact gFr.rf)
theorem vINV.act {m a x : Int32} (g : vINV S I J) (pK : ∃ c, c ≤ 6 ∧ I 6 1 = nI c ∧ v = some (.int (ca_act I c m a x).1) ∧ I1 = qtrace (qup I 99 1 0) (ca_act I c m a x).2 ∧ J1 = J) (cw : cW S S1 I I1) (hK : KQ0 S I J T v S1 I1 J1) (pR : ∃ c, c ≤ 6 ∧ I1 114 0 = nI c ∧ J2 = J1 ∧ (((∀ p, p < c → m ≠ nI p) ∨ qwithin a 0 2 = 0) ∧ v2 = some (.int 0) ∧ I2 = qup I1 114 37 0 ∨ ∃ p k, p < c ∧ m = nI p ∧ k < 7 ∧ I1 115 p = nI k ∧ ¬ qwithin a 0 2 = 0 ∧ v2 = some (.int (mAct (nI p) (I1 116 p) k a x).1) ∧ I2 = mtrace (qup I1 114 37 0) (mAct (nI p) (I1 116 p) k a x).2)) (hV : RQ0 S1 I1 J1 T2 v2 S2 I2 J2) : vINV S2 I2 J2 := by
  refine ⟨(g.1.act pK hK pR hV).1, ?_⟩
  obtain ⟨c, -, -, -, hI1, -⟩ := pK
  have r1 : ∀ b, b < 99 → I1 b = I b := fun b hb => by rw [hI1, qtrace_row (by omega) (by omega), qup_row (by omega)]
  refine g.frm cw hK hV (fun a ha => r1 a (by omega)) (by rw [r1 6 (by omega)]) (fun q j hq _ => by rw [r1 (qm 6 q) (by unfold qm; omega)]) ?_
  obtain ⟨c', -, -, -, ⟨-, -, h⟩ | ⟨p, k, -, -, -, -, -, -, h⟩⟩ := pR
  · rw [h]; exact gFr.rf.up4 (by omega)
  · rw [h]; exact gFr_mtrace _ (gFr.rf.up4 (by omega))
end V37
