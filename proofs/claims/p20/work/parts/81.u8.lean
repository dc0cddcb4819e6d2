/-! class and reference side by side: what is seen, planned, booked; ahead's numbers -/
def uS (I : qI) (o : Nat) (f : Nat → Int32) : Prop := ∀ z k, z ≤ 5 → I (o + 3) 3 = nI z → k < z → f (66 + k) = I (o + 4) k ∧ f (71 + k) = I (o + 5) k ∧ f (76 + k) = I (o + 6) k
def uP (I : qI) (o : Nat) (f : Nat → Int32) : Prop := ∀ z k, z ≤ 10 → I (o + 7) 3 = nI z → k < z → f (81 + k) = I (o + 8) k ∧ (I (o + 8) k = 0 ∨ (f (91 + k) = I (o + 9) k ∧ ∃ c p, c ≤ 6 ∧ I o 1 = nI c ∧ p < c ∧ I (o + 9) k = nI p))
def uB (I : qI) (o : Nat) (f : Nat → Int32) : Prop := ∀ z k, z ≤ 8 → I (o + 11) 3 = nI z → k < z → f (101 + k) = I (o + 12) k ∧ f (109 + k) = I (o + 13) k ∧ ∃ c p, c ≤ 6 ∧ I o 1 = nI c ∧ p < c ∧ I (o + 12) k = nI p
def uN (I : qI) (o : Nat) (f : Nat → Int32) : Prop := uS I o f ∧ uP I o f ∧ uB I o f
theorem uS.fr {I I' : qI} {f f' : Nat → Int32} {o : Nat} (h : uS I o f) (hr : ∀ a, o + 3 ≤ a → a ≤ o + 6 → I' a = I a) (hf : ∀ j, 66 ≤ j → j < 81 → f' j = f j) : uS I' o f' := fun z k hz e hk => by
  rw [hr (o + 3) (by omega) (by omega)] at e
  obtain ⟨x, y, w⟩ := h z k hz e hk
  rw [hf (66 + k) (by omega) (by omega), hf (71 + k) (by omega) (by omega), hf (76 + k) (by omega) (by omega), hr (o + 4) (by omega) (by omega), hr (o + 5) (by omega) (by omega), hr (o + 6) (by omega) (by omega)]
  exact ⟨x, y, w⟩
theorem uP.fr {I I' : qI} {f f' : Nat → Int32} {o : Nat} (h : uP I o f) (h1 : ∀ c, c ≤ 6 → I o 1 = nI c → ∃ c', c ≤ c' ∧ c' ≤ 6 ∧ I' o 1 = nI c') (hr : ∀ a, o + 7 ≤ a → a ≤ o + 10 → I' a = I a) (hf : ∀ j, 81 ≤ j → j < 101 → f' j = f j) : uP I' o f' := fun z k hz e hk => by
  rw [hr (o + 7) (by omega) (by omega)] at e
  obtain ⟨x, y⟩ := h z k hz e hk
  rw [hf (81 + k) (by omega) (by omega), hf (91 + k) (by omega) (by omega), hr (o + 8) (by omega) (by omega), hr (o + 9) (by omega) (by omega)]
  refine ⟨x, y.imp id (fun q => ?_)⟩
  obtain ⟨u, c, p, c6, hc, hp, e2⟩ := q
  obtain ⟨c', g1, g2, g3⟩ := h1 c c6 hc
  exact ⟨u, c', p, g2, g3, by omega, e2⟩
theorem uB.fr {I I' : qI} {f f' : Nat → Int32} {o : Nat} (h : uB I o f) (h1 : ∀ c, c ≤ 6 → I o 1 = nI c → ∃ c', c ≤ c' ∧ c' ≤ 6 ∧ I' o 1 = nI c') (hr : ∀ a, o + 11 ≤ a → a ≤ o + 14 → I' a = I a) (hf : ∀ j, 101 ≤ j → j < 117 → f' j = f j) : uB I' o f' := fun z k hz e hk => by
  rw [hr (o + 11) (by omega) (by omega)] at e
  obtain ⟨x, y, q⟩ := h z k hz e hk
  rw [hf (101 + k) (by omega) (by omega), hf (109 + k) (by omega) (by omega), hr (o + 12) (by omega) (by omega), hr (o + 13) (by omega) (by omega)]
  obtain ⟨c, p, c6, hc, hp, e2⟩ := q
  obtain ⟨c', g1, g2, g3⟩ := h1 c c6 hc
  exact ⟨x, y, c', p, g2, g3, by omega, e2⟩
theorem uN.fr {I I' : qI} {f f' : Nat → Int32} {o : Nat} (h : uN I o f) (h1 : ∀ c, c ≤ 6 → I o 1 = nI c → ∃ c', c ≤ c' ∧ c' ≤ 6 ∧ I' o 1 = nI c') (hr : ∀ a, o + 3 ≤ a → a ≤ o + 14 → I' a = I a) (hf : ∀ j, 66 ≤ j → j < 117 → f' j = f j) : uN I' o f' :=
  ⟨h.1.fr (fun a a1 a2 => hr a a1 (by omega)) (fun j j1 j2 => hf j j1 (by omega)), h.2.1.fr h1 (fun a a1 a2 => hr a (by omega) (by omega)) (fun j j1 j2 => hf j (by omega) (by omega)), h.2.2.fr h1 (fun a a1 a2 => hr a (by omega) a2) (fun j j1 j2 => hf j (by omega) j2)⟩
theorem uu_same {I I' : qI} {o : Nat} (e : I' o 1 = I o 1) : ∀ c, c ≤ 6 → I o 1 = nI c → ∃ c', c ≤ c' ∧ c' ≤ 6 ∧ I' o 1 = nI c' := fun c c6 hc => ⟨c, Nat.le_refl _, c6, by rw [e]; exact hc⟩
theorem qnbec_v {K : qI} {o q k r : Nat} (hr : r < k) : qnbec K o q k (o + 1) r = K (q + 1) r ∧ qnbec K o q k (o + 2) r = K (q + 2) r ∧ qnbec K o q k (o + 3) r = K (q + 3) r := by
  unfold qnbec qfil3
  refine ⟨?_, ?_, ?_⟩
  · show (if r < k ∧ o + 1 = o + 1 then K (q + 1) r else _) = _
    rw [if_pos ⟨hr, rfl⟩]
  · show (if r < k ∧ o + 2 = o + 1 then _ else if r < k ∧ o + 2 = o + 2 then K (q + 2) r else _) = _
    rw [if_neg (by omega), if_pos ⟨hr, rfl⟩]
  · show (if r < k ∧ o + 3 = o + 1 then _ else if r < k ∧ o + 3 = o + 2 then _ else if r < k ∧ o + 3 = o + 3 then K (q + 3) r else _) = _
    rw [if_neg (by omega), if_neg (by omega), if_pos ⟨hr, rfl⟩]
theorem qmbec_s {I : qI} {o q D r : Nat} (hok : qMgOK I q D) (hap : qApM o q) (hr : r < (I (q + 3) 3).toNatClampNeg) : qmbec I o q (o + 4) r = I (q + 4) r ∧ qmbec I o q (o + 5) r = I (q + 5) r ∧ qmbec I o q (o + 6) r = I (q + 6) r := by
  unfold qApM at hap
  obtain ⟨v1, v2, v3⟩ := qnbec_v (K := qmbA I o q) (o := o + 3) (q := q + 3) hr
  unfold qmbec
  refine ⟨?_, ?_, ?_⟩
  · rw [qnbec_row (by omega), qnbec_row (by omega)]
    exact v1.trans (by rw [qmbA_row hok (by omega)])
  · rw [qnbec_row (by omega), qnbec_row (by omega)]
    exact v2.trans (by rw [qmbA_row hok (by omega)])
  · rw [qnbec_row (by omega), qnbec_row (by omega)]
    exact v3.trans (by rw [qmbA_row hok (by omega)])
theorem qmbec_p {I : qI} {o q D r : Nat} (hok : qMgOK I q D) (hap : qApM o q) (hr : r < (I (q + 7) 3).toNatClampNeg) : qmbec I o q (o + 8) r = I (q + 8) r ∧ qmbec I o q (o + 9) r = I (q + 9) r := by
  unfold qApM at hap
  obtain ⟨v1, v2, v3⟩ := qnbec_v (K := qnbec (qmbA I o q) (o + 3) (q + 3) (I (q + 3) 3).toNatClampNeg) (o := o + 7) (q := q + 7) hr
  unfold qmbec
  refine ⟨?_, ?_⟩
  · rw [qnbec_row (by omega)]
    exact v1.trans (by rw [qnbec_row (by omega), qmbA_row hok (by omega)])
  · rw [qnbec_row (by omega)]
    exact v2.trans (by rw [qnbec_row (by omega), qmbA_row hok (by omega)])
theorem qmbec_b {I : qI} {o q D r : Nat} (hok : qMgOK I q D) (hap : qApM o q) (hr : r < (I (q + 11) 3).toNatClampNeg) : qmbec I o q (o + 12) r = I (q + 12) r ∧ qmbec I o q (o + 13) r = I (q + 13) r := by
  unfold qApM at hap
  obtain ⟨v1, v2, v3⟩ := qnbec_v (K := qnbec (qnbec (qmbA I o q) (o + 3) (q + 3) (I (q + 3) 3).toNatClampNeg) (o + 7) (q + 7) (I (q + 7) 3).toNatClampNeg) (o := o + 11) (q := q + 11) hr
  unfold qmbec
  refine ⟨?_, ?_⟩
  · exact v1.trans (by rw [qnbec_row (by omega), qnbec_row (by omega), qmbA_row hok (by omega)])
  · exact v2.trans (by rw [qnbec_row (by omega), qnbec_row (by omega), qmbA_row hok (by omega)])
theorem uN.bec {I : qI} {f f' : Nat → Int32} {o q D : Nat} (h : uN I q f) (hok : qMgOK I q D) (hap : qApM o q) (hf : ∀ j, 66 ≤ j → j < 117 → f' j = f j) : uN (qmbec I o q) o f' := by
  obtain ⟨a, b, d⟩ := h
  obtain ⟨⟨c, c6, hc⟩, -, -, ⟨z1, y1, e1⟩, ⟨z2, y2, e2⟩, ⟨z3, y3, e3⟩, -⟩ := id hok
  have n1 : qmbec I o q (o + 3) 3 = nI z1 := by rw [qmbec_n3, e1, qcl (by omega)]
  have n2 : qmbec I o q (o + 7) 3 = nI z2 := by rw [qmbec_n7, e2, qcl (by omega)]
  have n3 : qmbec I o q (o + 11) 3 = nI z3 := by rw [qmbec_n11, e3, qcl (by omega)]
  have ec : ∀ c', c' ≤ 6 → I q 1 = nI c' → c' = c := fun c' c6' hc' => (nI_eq (by omega) (by omega)).mp (hc'.symm.trans hc)
  refine ⟨fun z k hz e hk => ?_, fun z k hz e hk => ?_, fun z k hz e hk => ?_⟩
  · have : z = z1 := (nI_eq (by omega) (by omega)).mp (e.symm.trans n1)
    subst this
    obtain ⟨v1, v2, v3⟩ := qmbec_s hok hap (r := k) (by rw [e1, qcl (by omega)]; exact hk)
    rw [v1, v2, v3, hf (66 + k) (by omega) (by omega), hf (71 + k) (by omega) (by omega), hf (76 + k) (by omega) (by omega)]
    exact a z k hz e1 hk
  · have : z = z2 := (nI_eq (by omega) (by omega)).mp (e.symm.trans n2)
    subst this
    obtain ⟨v1, v2⟩ := qmbec_p hok hap (r := k) (by rw [e2, qcl (by omega)]; exact hk)
    rw [v1, v2, hf (81 + k) (by omega) (by omega), hf (91 + k) (by omega) (by omega)]
    obtain ⟨x, y⟩ := b z k hz e2 hk
    refine ⟨x, y.imp id (fun w => ?_)⟩
    obtain ⟨u, c', p, c6', hc', hp, e4⟩ := w
    rw [ec c' c6' hc'] at hp
    exact ⟨u, c, p, c6, qmbec_1 hc c6, hp, e4⟩
  · have : z = z3 := (nI_eq (by omega) (by omega)).mp (e.symm.trans n3)
    subst this
    obtain ⟨v1, v2⟩ := qmbec_b hok hap (r := k) (by rw [e3, qcl (by omega)]; exact hk)
    rw [v1, v2, hf (101 + k) (by omega) (by omega), hf (109 + k) (by omega) (by omega)]
    obtain ⟨x, y, c', p, c6', hc', hp, e4⟩ := d z k hz e3 hk
    rw [ec c' c6' hc'] at hp
    exact ⟨x, y, c, p, c6, qmbec_1 hc c6, hp, e4⟩
def uTie (I : qI) : Prop := uN I 6 (kp I) ∧ (I 0 4 = 1 → uN I 60 (I 139)) ∧ ∀ p, p < 6 → I (qm 33 p) 0 = nI p
def uINV (S : qSh) (I : qI) (J : qJ) : Prop := vINV S I J ∧ uTie I
/-- what a call leaves that touches no notes -/
theorem uTie.mk {I I1 I2 : qI} {J J1 J2 : qJ} (h : uTie I) (cf : cFar I I1 J J1) (rf : rFar I1 I2 J1 J2) (e0 : I1 0 4 = I 0 4) (h1 : ∀ c, c ≤ 6 → I 6 1 = nI c → ∃ c', c ≤ c' ∧ c' ≤ 6 ∧ I1 6 1 = nI c') (n9 : ∀ a, 9 ≤ a → a ≤ 20 → I1 a = I a) (r60 : ∀ a, 60 ≤ a → a ≤ 86 → I1 a = I a) (n3 : n33 I I1) (kk : ∀ j, 66 ≤ j → j < 117 → kp I2 j = kp I1 j) (r139 : I2 139 = I1 139) : uTie I2 := by
  have e : ∀ a, a < 114 → I2 a = I1 a := fun a ha => (rf a (by omega)).1
  refine ⟨h.1.fr (fun c c6 hc => ?_) (fun a a1 a2 => by rw [e a (by omega), n9 a (by omega) (by omega)]) (fun j j1 j2 => by rw [kk j j1 j2, kp_far cf (by omega)]), fun h4 => ?_, fun p hp => ?_⟩
  · obtain ⟨c', x, y, z⟩ := h1 c c6 hc
    exact ⟨c', x, y, by rw [e 6 (by omega)]; exact z⟩
  · have : I 0 4 = 1 := by rw [← e0, ← e 0 (by omega)]; exact h4
    rw [r139, (cf 139 (by omega) (by omega)).1]
    exact (h.2.1 this).fr (uu_same (by rw [e 60 (by omega), r60 60 (by omega) (by omega)])) (fun a a1 a2 => by rw [e a (by omega), r60 a (by omega) (by omega)]) (fun _ _ _ => rfl)
  · rw [e (qm 33 p) (by unfold qm; omega), n3 p hp]; exact h.2.2 p hp
/-- the reference's calls that touch no notes -/
def uFr (I I' : qI) : Prop := ∀ a, ((131 ≤ a ∧ a ≤ 137) ∨ a = 139) → I' a = I a
theorem uFr.rf {I : qI} : uFr I I := fun _ _ => rfl
theorem uFr.up {I I' : qI} {a j : Nat} {x : Int32} (h : uFr I I') (ha : (a < 131 ∨ 137 < a) ∧ a ≠ 139) : uFr I (qup I' a j x) := fun b hb => by rw [qup_row (by omega)]; exact h b hb
theorem uFr.trc {I0 I : qI} (l : List Int32) (h : uFr I0 I) : uFr I0 (mtrace I l) := fun b hb => by rw [mtrace_row (by omega) (by omega)]; exact h b hb
theorem kpa_u : ∀ j, j < 117 → 66 ≤ j → 131 ≤ (kpa j).1 ∧ (kpa j).1 ≤ 137 := by decide +kernel
theorem uFr.kk {I I' : qI} (h : uFr I I') : ∀ j, 66 ≤ j → j < 117 → kp I' j = kp I j := fun j j1 j2 => by
  unfold kp
  rw [h _ (Or.inl (kpa_u j j2 j1))]
theorem uTie.frm {I I1 I2 : qI} {J J1 J2 : qJ} (h : uTie I) (cf : cFar I I1 J J1) (rf : rFar I1 I2 J1 J2) (r : ∀ a, (a = 0 ∨ (9 ≤ a ∧ a ≤ 20) ∨ (33 ≤ a ∧ a ≤ 86)) → I1 a = I a) (e61 : I1 6 1 = I 6 1) (u : uFr I1 I2) : uTie I2 :=
  h.mk cf rf (by rw [r 0 (by omega)]) (uu_same e61) (fun a a1 a2 => r a (by omega)) (fun a a1 a2 => r a (by omega)) (fun p hp => by rw [r (qm 33 p) (by unfold qm; omega)]) u.kk (u 139 (by omega))
section U8
variable {S S1 S2 : qSh} {I I1 I2 : qI} {J J1 J2 : qJ} {T T2 : qI → Prop} {v v2 : Option Value}
theorem uINV.ask (g : uINV S I J) (u : cU I I1 J J1) (cw : cW S S1 I I1) (hK : KQ0 S I J T v S1 I1 J1) (r : rU I1 I2 J1 J2) (rw : rW I1 I2) (hV : RQ0 S1 I1 J1 T2 v2 S2 I2 J2) : uINV S2 I2 J2 :=
  ⟨g.1.ask u cw hK r rw hV, g.2.mk hK.2.2.1 hV.2.2.1 u.2.1 (uu_same (by rw [(u.1 6 (by omega)).1])) (fun a a1 a2 => (u.1 a (by omega)).1) (fun a a1 a2 => (u.1 a (by omega)).1) u.2.2 (fun j _ j2 => r.1 j (by omega)) r.2.1⟩
theorem uINV.set {p x n : Int32} (g : uINV S I J) (pK : ∃ c, c ≤ 6 ∧ I 6 1 = nI c ∧ v = some (.int (ca_set I c p x n)) ∧ I1 = ci_set I c p x n ∧ J1 = J) (cw : cW S S1 I I1) (hK : KQ0 S I J T v S1 I1 J1) (pR : v2 = some (.int (ga_Md_set I1 J1 p x n)) ∧ I2 = gi_Md_set I1 J1 p x n ∧ J2 = gj_Md_set I1 J1 p x n) (hV : RQ0 S1 I1 J1 T2 v2 S2 I2 J2) : uINV S2 I2 J2 ∧ v = v2 := by
  obtain ⟨gv, ev⟩ := g.1.set pK cw hK pR hV
  refine ⟨⟨gv, ?_⟩, ev⟩
  obtain ⟨c, c6, hc, -, hI1, -⟩ := pK
  refine g.2.frm hK.2.2.1 hV.2.2.1 (fun a ha => by rw [hI1]; exact ci_set_fr c6 (by omega)) (by rw [hI1, ci_set_fr c6 (by omega)]) ?_
  rw [pR.2.1]
  unfold gi_Md_set
  (repeat' split) <;> first | exact uFr.rf | exact uFr.rf.up (by omega)
theorem uINV.done {p b : Int32} (g : uINV S I J) (hb : qbool b) (pK : ∃ c, c ≤ 6 ∧ I 6 1 = nI c ∧ v = some (.int (ca_done I c p)) ∧ I1 = ci_done I c p b ∧ J1 = J) (cw : cW S S1 I I1) (hK : KQ0 S I J T v S1 I1 J1) (pR : v2 = some (.int (ga_Md_done I1 J1 p b)) ∧ I2 = gi_Md_done I1 J1 p b ∧ J2 = gj_Md_done I1 J1 p b) (hV : RQ0 S1 I1 J1 T2 v2 S2 I2 J2) : uINV S2 I2 J2 ∧ v = v2 := by
  obtain ⟨gv, ev⟩ := g.1.done hb pK cw hK pR hV
  refine ⟨⟨gv, ?_⟩, ev⟩
  obtain ⟨c, c6, hc, -, hI1, -⟩ := pK
  refine g.2.frm hK.2.2.1 hV.2.2.1 (fun a ha => by rw [hI1]; exact ci_done_fr c6 (by omega)) (by rw [hI1, ci_done_fr c6 (by omega)]) ?_
  rw [pR.2.1]
  unfold gi_Md_done
  (repeat' split) <;> first | exact uFr.rf | exact uFr.rf.up (by omega)
theorem uINV.row {p r n : Int32} (g : uINV S I J) (pK : ∃ c, c ≤ 6 ∧ I 6 1 = nI c ∧ v = some (.int (ca_row I c p r n)) ∧ I1 = ci_row I c p r n ∧ J1 = J) (cw : cW S S1 I I1) (hK : KQ0 S I J T v S1 I1 J1) (pR : v2 = some (.int (ga_Md_row I1 J1 p r n)) ∧ I2 = gi_Md_row I1 J1 p r n ∧ J2 = gj_Md_row I1 J1 p r n) (hV : RQ0 S1 I1 J1 T2 v2 S2 I2 J2) : uINV S2 I2 J2 := by
  refine ⟨g.1.row pK cw hK pR hV, ?_⟩
  obtain ⟨c, c6, hc, -, hI1, -⟩ := pK
  refine g.2.frm hK.2.2.1 hV.2.2.1 (fun a ha => by rw [hI1]; exact ci_row_fr c6 (by omega)) (by rw [hI1, ci_row_fr c6 (by omega)]) ?_
  rw [pR.2.1]
  unfold gi_Md_row
  (repeat' split) <;> first | exact uFr.rf | exact uFr.rf.up (by omega)
theorem uINV.list {p : Int32} (g : uINV S I J) (pK : ∃ c l, c ≤ 6 ∧ I 6 1 = nI c ∧ l ≤ 6 ∧ I 6 3 = nI l ∧ v = some (.int (ca_list I c l p)) ∧ I1 = ci_list I c l p ∧ J1 = J) (cw : cW S S1 I I1) (hK : KQ0 S I J T v S1 I1 J1) (pR : ∃ l, l ≤ 6 ∧ I1 114 8 = nI l ∧ v2 = some (.int (ga_Md_list I1 J1 l p)) ∧ I2 = gi_Md_list I1 J1 l p ∧ J2 = gj_Md_list I1 J1 l p) (hV : RQ0 S1 I1 J1 T2 v2 S2 I2 J2) : uINV S2 I2 J2 := by
  refine ⟨g.1.list pK cw hK pR hV, ?_⟩
  obtain ⟨c, l, c6, hc, l6, hl, -, hI1, -⟩ := pK
  obtain ⟨l', l6', hl', -, hI2, -⟩ := pR
  refine g.2.frm hK.2.2.1 hV.2.2.1 (fun a ha => by rw [hI1]; exact ci_list_fr (by omega) (by omega)) ?_ ?_
  · rw [hI1]
    unfold ci_list
    (repeat' split) <;> first | rfl | (rw [qup_j (by decide)]) | (rw [qup_j (by decide), qup_o (by decide)])
  · rw [hI2]
    unfold gi_Md_list
    (repeat' split) <;> first | exact uFr.rf | exact uFr.rf.up (by omega) | exact (uFr.rf.up (by omega)).up (by omega)
theorem uINV.swap {p q : Int32} (g : uINV S I J) (pK : ∃ c l, c ≤ 6 ∧ I 6 1 = nI c ∧ l ≤ 6 ∧ I 6 3 = nI l ∧ v = some (.int (ca_swap I c l p q)) ∧ I1 = ci_swap I c l p q ∧ J1 = J) (cw : cW S S1 I I1) (hK : KQ0 S I J T v S1 I1 J1) (pR : ∃ l, l ≤ 6 ∧ I1 114 8 = nI l ∧ v2 = some (.int (ga_Md_swap I1 J1 l p q)) ∧ I2 = gi_Md_swap I1 J1 l p q ∧ J2 = gj_Md_swap I1 J1 l p q) (hV : RQ0 S1 I1 J1 T2 v2 S2 I2 J2) : uINV S2 I2 J2 := by
  refine ⟨g.1.swap pK cw hK pR hV, ?_⟩
  obtain ⟨c, l, c6, hc, l6, hl, -, hI1, -⟩ := pK
  obtain ⟨l', l6', hl', -, hI2, -⟩ := pR
  have r1 : ∀ a, a ≠ 8 → I1 a = I a := fun a ha => by rw [hI1]; exact ci_swap_fr ha
  refine g.2.frm hK.2.2.1 hV.2.2.1 (fun a ha => r1 a (by omega)) (by rw [r1 6 (by omega)]) ?_
  rw [hI2]
  unfold gi_Md_swap
  (repeat' split) <;> first | exact uFr.rf | exact (uFr.rf.up (by omega)).up (by omega)
theorem uINV.feed {x : Int32} (g : uINV S I J) (pK : ∃ z, z ≤ 100 ∧ I 87 1 = nI z ∧ v = some (.int (ca_feed z x)) ∧ I1 = ci_feed I z x ∧ J1 = J) (cw : cW S S1 I I1) (hK : KQ0 S I J T v S1 I1 J1) (pR : v2 = some (.int (ga_Md_feed I1 J1 x)) ∧ I2 = gi_Md_feed I1 J1 x ∧ J2 = gj_Md_feed I1 J1 x) (hV : RQ0 S1 I1 J1 T2 v2 S2 I2 J2) : uINV S2 I2 J2 := by
  refine ⟨g.1.feed pK cw hK pR hV, ?_⟩
  obtain ⟨z, -, -, -, hI1, -⟩ := pK
  have r1 : ∀ a, a ≠ 87 → a ≠ 88 → I1 a = I a := fun a h1 h2 => by rw [hI1]; exact ci_feed_fr h1 h2
  refine g.2.frm hK.2.2.1 hV.2.2.1 (fun a ha => r1 a (by omega) (by omega)) (by rw [r1 6 (by omega) (by omega)]) ?_
  rw [pR.2.1]
  unfold gi_Md_feed
  (repeat' split) <;> first | exact uFr.rf | exact (uFr.rf.up (by omega)).up (by omega)
theorem uINV.tape {tp s n : Int32} (g : uINV S I J) (pK : I1 = ci_tape I tp s n ∧ J1 = cj_tape J tp s n) (cw : cW S S1 I I1) (hK : KQ0 S I J T v S1 I1 J1) (pR : xTp I1 J1 tp s n I2 J2) (hV : RQ0 S1 I1 J1 T2 v2 S2 I2 J2) : uINV S2 I2 J2 := by
  refine ⟨g.1.tape pK cw hK pR hV, ?_⟩
  obtain ⟨hI1, -⟩ := pK
  have r1 : ∀ a, a < 102 → I1 a = I a := fun a ha => by rw [hI1]; exact ci_tape_fr (by omega)
  refine g.2.frm hK.2.2.1 hV.2.2.1 (fun a ha => r1 a (by omega)) (by rw [r1 6 (by omega)]) ?_
  rcases pR with ⟨-, h, -⟩ | ⟨t, -, -, -, -, -, h, -⟩
  · rw [h]; exact uFr.rf
  · rw [h]; exact (uFr.rf.up (by omega)).up (by omega)
theorem uINV.item {tp i : Int32} {z : Int64} (g : uINV S I J) (pK : v = some (.int (ca_item I tp i)) ∧ I1 = I ∧ J1 = cj_item I J tp i z) (cw : cW S S1 I I1) (hK : KQ0 S I J T v S1 I1 J1) (pR : v2 = some (.int (ga_Md_item I1 J1 tp i z)) ∧ I2 = I1 ∧ J2 = gj_Md_item I1 J1 tp i z) (hV : RQ0 S1 I1 J1 T2 v2 S2 I2 J2) : uINV S2 I2 J2 := by
  refine ⟨g.1.item pK cw hK pR hV, ?_⟩
  have h1 := pK.2.1
  have h2 := pR.2.1
  exact g.2.frm hK.2.2.1 hV.2.2.1 (fun a _ => by rw [h1]) (by rw [h1]) (by rw [h2]; exact uFr.rf)
theorem uINV.shift {tp i tq j n : Int32} (g : uINV S I J) (pK : v = some (.int (ca_shift I tp i tq j n)) ∧ I1 = I ∧ J1 = cj_shift I J tp i tq j n) (cw : cW S S1 I I1) (hK : KQ0 S I J T v S1 I1 J1) (pR : qSh1 S1 I1 J1 tp i tq j n v2 S2 I2 J2) (hV : RQ0 S1 I1 J1 T2 v2 S2 I2 J2) : uINV S2 I2 J2 := by
  refine ⟨g.1.shift pK cw hK pR hV, ?_⟩
  have h1 := pK.2.1
  have h2 : I2 = I1 := pR.2.1.symm
  exact g.2.frm hK.2.2.1 hV.2.2.1 (fun a _ => by rw [h1]) (by rw [h1]) (by rw [h2]; exact uFr.rf)
theorem uINV.act {m a x : Int32} (g : uINV S I J) (pK : ∃ c, c ≤ 6 ∧ I 6 1 = nI c ∧ v = some (.int (ca_act I c m a x).1) ∧ I1 = qtrace (qup I 99 1 0) (ca_act I c m a x).2 ∧ J1 = J) (cw : cW S S1 I I1) (hK : KQ0 S I J T v S1 I1 J1) (pR : ∃ c, c ≤ 6 ∧ I1 114 0 = nI c ∧ J2 = J1 ∧ (((∀ p, p < c → m ≠ nI p) ∨ qwithin a 0 2 = 0) ∧ v2 = some (.int 0) ∧ I2 = qup I1 114 37 0 ∨ ∃ p k, p < c ∧ m = nI p ∧ k < 7 ∧ I1 115 p = nI k ∧ ¬ qwithin a 0 2 = 0 ∧ v2 = some (.int (mAct (nI p) (I1 116 p) k a x).1) ∧ I2 = mtrace (qup I1 114 37 0) (mAct (nI p) (I1 116 p) k a x).2)) (hV : RQ0 S1 I1 J1 T2 v2 S2 I2 J2) : uINV S2 I2 J2 := by
  refine ⟨g.1.act pK cw hK pR hV, ?_⟩
  obtain ⟨c, -, -, -, hI1, -⟩ := pK
  have r1 : ∀ b, b < 99 → I1 b = I b := fun b hb => by rw [hI1, qtrace_row (by omega) (by omega), qup_row (by omega)]
  refine g.2.frm hK.2.2.1 hV.2.2.1 (fun a ha => r1 a (by omega)) (by rw [r1 6 (by omega)]) ?_
  obtain ⟨c', -, -, -, ⟨-, -, h⟩ | ⟨p, k, -, -, -, -, -, -, h⟩⟩ := pR
  · rw [h]; exact uFr.rf.up (by omega)
  · rw [h]; exact uFr.trc _ (uFr.rf.up (by omega))
end U8
