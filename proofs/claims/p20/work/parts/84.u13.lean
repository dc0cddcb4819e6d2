/-! both say the same of days ahead -/
section U13
variable {S S1 : qSh} {I I1 : qI} {J J1 : qJ} {T : qI → Prop} {v v2 : Option Value}
theorem x_cc {c c' : Nat} (g : uINV S I J) (hK : KQ0 S I J T v S1 I1 J1) (c6 : c ≤ 6) (hc : I 6 1 = nI c) (c6' : c' ≤ 6) (hc' : I1 114 0 = nI c') : c' = c := by
  have cf := hK.2.2.1
  rw [(cf 114 (by omega) (by omega)).1] at hc'
  obtain ⟨a1, -⟩ := g.1.1.2.2.2.1
  exact (nI_eq (by omega) (by omega)).mp (hc'.symm.trans (a1.trans hc))
/-- both stand alike k days on -/
theorem x_ahead {M : qI} {w0 c : Nat} (g : uINV S I J) (hK : KQ0 S I J T v S1 I1 J1) (hw : qR S 6 5 = some w0) (hm : ∀ a, a ≠ 140 → M a = I1 a) (c6 : c ≤ 6) (hc' : I1 114 0 = nI c) : ∀ k, k ≤ 61 → qhurts (cah I w0 k) 33 = qsumP (mgoN M k 119) c ∧ qdones (cah I w0 k) 33 = qsumP (mgoN M k 120) c ∧ cah I w0 k 33 1 = nI c ∧ ∀ p, p < c → xMo (cah I w0 k) (mgoN M k) 33 p := by
  have cf := hK.2.2.1
  intro k hk
  obtain ⟨st, ap, d, d9, hd⟩ := g.start (M := M) hw (fun a a1 a2 a3 => by rw [hm a a3, (cf a a1 a2).1])
  have dy := st.days ap hd k (by omega)
  exact dy.sums (by rw [mgoN_f (by decide), hm 114 (by decide)]; exact hc') c6
theorem x_on {n x : Int32} (g : uINV S I J) (pK : ∃ c w0, c ≤ 6 ∧ I 6 1 = nI c ∧ qR S 6 5 = some w0 ∧ v = some (.int (ca_on I w0 c n x))) (hK : KQ0 S I J T v S1 I1 J1) (pR : ∃ c, c ≤ 6 ∧ I1 114 0 = nI c ∧ ∃ M, (∀ a, a ≠ 140 → M a = I1 a) ∧ v2 = some (.int (ga_on M c n x))) : v = v2 := by
  obtain ⟨c, w0, c6, hc, hw, hv⟩ := pK
  obtain ⟨c', c6', hc', M, hm, hv2⟩ := pR
  obtain rfl := x_cc g hK c6 hc c6' hc'
  rw [hv, hv2]
  congr 2
  unfold ca_on ga_on aOn
  by_cases q : x = 0 ∨ x = 1 ∨ ¬ qwithin (x - 10) 0 (nI c' - 1) = 0
  · rw [if_pos q, if_pos q]
    by_cases q2 : qwithin n 0 60 = 0
    · rw [if_pos q2, if_pos q2]
    · rw [if_neg q2, if_neg q2]
      obtain ⟨g1, g2⟩ := qwithin_y q2
      obtain ⟨m, m1, rfl⟩ := nI_of2 (M := 60) (n := 60) rfl (Int32.not_lt.mpr g1) g2
      rw [qcl (n := m) (by omega)]
      obtain ⟨s1, s2, -, s4⟩ := x_ahead g hK hw hm c6 hc' m (by omega)
      by_cases q3 : x = 0
      · rw [if_pos q3, if_pos q3]; exact s1
      · rw [if_neg q3, if_neg q3]
        by_cases q4 : x = 1
        · rw [if_pos q4, if_pos q4]; exact s2
        · rw [if_neg q4, if_neg q4]
          obtain ⟨p, hp, ep⟩ := qisM_y (show c' < 2 ^ 31 by omega) ((q.resolve_left q3).resolve_left q4)
          rw [ep, qcl (n := p) (by omega)]
          obtain ⟨-, -, -, -, -, g5, -⟩ := s4 p hp
          exact g5
  · rw [if_neg q, if_neg q]
theorem x_turn {x : Int32} (g : uINV S I J) (pK : ∃ c w0, c ≤ 6 ∧ I 6 1 = nI c ∧ qR S 6 5 = some w0 ∧ v = some (.int (ca_turn I w0 c x))) (hK : KQ0 S I J T v S1 I1 J1) (pR : ∃ c, c ≤ 6 ∧ I1 114 0 = nI c ∧ ∃ M, (∀ a, a ≠ 140 → M a = I1 a) ∧ v2 = some (.int (ga_turn M c x))) : v = v2 := by
  obtain ⟨c, w0, c6, hc, hw, hv⟩ := pK
  obtain ⟨c', c6', hc', M, hm, hv2⟩ := pR
  obtain rfl := x_cc g hK c6 hc c6' hc'
  rw [hv, hv2]
  congr 2
  unfold ca_turn ga_turn
  by_cases q : qwithin x 0 (nI c' - 1) = 0
  · rw [if_pos q, if_pos q]
  · rw [if_neg q, if_neg q]
    obtain ⟨p, hp, rfl⟩ := qisM_y (show c' < 2 ^ 31 by omega) q
    rw [qcl (n := p) (by omega)]
    refine aTurn_cg 61 0 (fun j _ hj => ?_)
    obtain ⟨-, -, -, s4⟩ := x_ahead g hK hw hm c6 hc' j (by omega)
    obtain ⟨-, -, -, -, -, -, g6, gb, -⟩ := s4 p hp
    show cah I w0 j (qm 33 p) 6 = if mgoN M j 120 p = 1 then 1 else 0
    rw [← g6]
    rcases gb with z | z
    · rw [z, if_neg (by decide)]
    · rw [z, if_pos rfl]
theorem x_empty (g : uINV S I J) (pK : ∃ c w0, c ≤ 6 ∧ I 6 1 = nI c ∧ qR S 6 5 = some w0 ∧ v = some (.int (ca_empty I w0))) (hK : KQ0 S I J T v S1 I1 J1) (pR : ∃ c, c ≤ 6 ∧ I1 114 0 = nI c ∧ ∃ M, (∀ a, a ≠ 140 → M a = I1 a) ∧ v2 = some (.int (ga_empty M c))) : v = v2 := by
  obtain ⟨c, w0, c6, hc, hw, hv⟩ := pK
  obtain ⟨c', c6', hc', M, hm, hv2⟩ := pR
  obtain rfl := x_cc g hK c6 hc c6' hc'
  rw [hv, hv2]
  refine congrArg (fun r => some (Value.int r)) ?_
  unfold ca_empty ga_empty
  refine aTurn_cg 61 0 (fun j _ hj => ?_)
  obtain ⟨-, s2, s3, -⟩ := x_ahead g hK hw hm c6 hc' j (by omega)
  show (if qdones (cah I w0 j) 33 = cah I w0 j 33 1 then (1 : Int32) else 0) = _
  rw [s2, s3]
/-- one field of one, for both -/
theorem xDo.fld {K M : qI} {o w p jj a : Nat} {y : Int32} (h : xDo K M o w) (hw : qApart o w) (hp : p < 6) (hj : (jj = 2 ∧ a = 116) ∨ (jj = 3 ∧ a = 117) ∨ (jj = 4 ∧ a = 118 ∧ y ≤ 99) ∨ (jj = 6 ∧ a = 120 ∧ qbool y)) : xDo (qup K (qm o p) jj y) (qup M a p y) o w := by
  obtain ⟨c, l, dd, c6, l6, hc, hc', hl, hl', hd, hd', hdd, hil, hls, hpp⟩ := h
  unfold qApart at hw
  have ha : a = 116 ∨ a = 117 ∨ a = 118 ∨ a = 120 := by omega
  have kr : ∀ b, b ≠ qm o p → qup K (qm o p) jj y b = K b := fun b hb => qup_row hb
  have mr : ∀ b, b ≠ a → qup M a p y b = M b := fun b hb => qup_row hb
  refine ⟨c, l, dd, c6, l6, by rw [kr o (by unfold qm; omega)]; exact hc, by rw [mr 114 (by omega)]; exact hc', by rw [kr o (by unfold qm; omega)]; exact hl, by rw [mr 114 (by omega)]; exact hl', by rw [kr o (by unfold qm; omega)]; exact hd, by rw [mr 114 (by omega)]; exact hd', hdd, ?_, fun i hi => ?_, fun q hq => ?_⟩
  · rw [mr 114 (by omega)]
    exact hil.fr (fun b hb => kr _ (by unfold qm; omega)) (fun b hb => mr b (by omega)) (by rw [mr 114 (by omega)])
  · obtain ⟨p', p1, p2, p3⟩ := hls i hi
    exact ⟨p', p1, by rw [kr (o + 2) (by unfold qm; omega)]; exact p2, by rw [mr 122 (by omega)]; exact p3⟩
  · obtain ⟨g0, g1, g2, g3, g4, g5, g6, gb, gw, gr⟩ := hpp q hq
    unfold xMo
    rw [kr (qm o q + 1) (by unfold qm; omega)]
    by_cases e : q = p
    · subst e
      have kj : ∀ i, i ≠ jj → qup K (qm o q) jj y (qm o q) i = K (qm o q) i := fun i hi => qup_j hi
      have ka : qup K (qm o q) jj y (qm o q) jj = y := qup_at
      have mb : ∀ b, b ≠ a → qup M a q y b q = M b q := fun b hb => by rw [mr b hb]
      have ma : qup M a q y a q = y := qup_at
      rcases hj with ⟨rfl, rfl⟩ | ⟨rfl, rfl⟩ | ⟨rfl, rfl, hy⟩ | ⟨rfl, rfl, hy⟩
      · rw [kj 0 (by decide), kj 1 (by decide), ka, kj 3 (by decide), kj 4 (by decide), kj 5 (by decide), kj 6 (by decide), mb 115 (by decide), ma, mb 117 (by decide), mb 118 (by decide), mb 119 (by decide), mb 120 (by decide), mr 121 (by decide)]
        exact ⟨g0, g1, rfl, g3, g4, g5, g6, gb, gw, gr⟩
      · rw [kj 0 (by decide), kj 1 (by decide), kj 2 (by decide), ka, kj 4 (by decide), kj 5 (by decide), kj 6 (by decide), mb 115 (by decide), mb 116 (by decide), ma, mb 118 (by decide), mb 119 (by decide), mb 120 (by decide), mr 121 (by decide)]
        exact ⟨g0, g1, g2, rfl, g4, g5, g6, gb, gw, gr⟩
      · rw [kj 0 (by decide), kj 1 (by decide), kj 2 (by decide), kj 3 (by decide), ka, kj 5 (by decide), kj 6 (by decide), mb 115 (by decide), mb 116 (by decide), mb 117 (by decide), ma, mb 119 (by decide), mb 120 (by decide), mr 121 (by decide)]
        exact ⟨g0, g1, g2, g3, rfl, g5, g6, gb, hy, gr⟩
      · rw [kj 0 (by decide), kj 1 (by decide), kj 2 (by decide), kj 3 (by decide), kj 4 (by decide), kj 5 (by decide), ka, mb 115 (by decide), mb 116 (by decide), mb 117 (by decide), mb 118 (by decide), mb 119 (by decide), ma, mr 121 (by decide)]
        exact ⟨g0, g1, g2, g3, g4, g5, rfl, hy, gw, gr⟩
    · have mq : ∀ b, qup M a p y b q = M b q := fun b => qup_j e
      rw [kr (qm o q) (by unfold qm; omega), mq, mq, mq, mq, mq, mq, mr 121 (by omega)]
      exact ⟨g0, g1, g2, g3, g4, g5, g6, gb, gw, gr⟩
theorem qplan1_n {K : qI} {o w r a D : Nat} (hok : qMgOK K o D) (h1 : o < a) (h2 : a < o + 15) : qplan1 K o w r a = K a := by
  obtain ⟨c, c6, hc⟩ := hok.1
  unfold qplan1
  split
  · exact qgoN_row2 hok (by omega) (fun p hp => by unfold qm; omega) 1
  · split
    · rfl
    · split <;> exact qup_row (by unfold qm; omega)
theorem qplanN_n {K : qI} {o w a D : Nat} (hok : qMgOK K o D) (h1 : o < a) (h2 : a < o + 15) : ∀ n, qplanN K o w n a = K a := by
  intro n
  induction n with
  | zero => rfl
  | succ n ih => rw [qplanN, qplan1_n (hok.planN n) h1 h2, ih]
theorem x_ends {x : Int32} (g : uINV S I J) (pK : ∃ c w0, c ≤ 6 ∧ I 6 1 = nI c ∧ qR S 6 5 = some w0 ∧ v = some (.int (ca_ends I w0 x))) (hK : KQ0 S I J T v S1 I1 J1) (pR : ∃ c z, c ≤ 6 ∧ I1 114 0 = nI c ∧ z ≤ 10 ∧ I1 114 31 = nI z ∧ ∃ M, (∀ a, a ≠ 140 → M a = I1 a) ∧ v2 = some (.int (ga_ends M c z x))) : v = v2 := by
  have cf := hK.2.2.1
  obtain ⟨c, w0, c6, hc, hw, hv⟩ := pK
  obtain ⟨c', z, c6', hc', z10, hz, M, hm, hv2⟩ := pR
  obtain rfl := x_cc g hK c6 hc c6' hc'
  rw [hv, hv2]
  congr 2
  unfold ca_ends ga_ends
  by_cases q : qwithin x 0 1 = 0
  · rw [if_pos q, if_pos q]
  rw [if_neg q, if_neg q]
  have mI : ∀ a, 114 ≤ a → a ≤ 147 → a ≠ 140 → M a = I a := fun a a1 a2 a3 => by rw [hm a a3, (cf a a1 a2).1]
  obtain ⟨st, ap, d, d9, hd⟩ := g.start (M := M) hw mI
  obtain ⟨⟨wa, wb, wc, bl, hC⟩, -, hr, t1, -⟩ := id g.1.1
  have hok : qMgOK I 6 9999 := hC.2.2.2.2.1
  have hah : cAh0 I := hC.2.2.2.2.2.2.2.1
  have apM : qApM 33 6 := by unfold qApM; omega
  have ok2 : qMgOK (qmbec I 33 6) 33 9999 := qmbec_ok hok apM hah.1 hah.2
  obtain ⟨-, uP, -⟩ : uN (qmbec I 33 6) 33 (kp I) := g.2.1.bec hok apM (fun _ _ _ => rfl)
  obtain ⟨a1, -, -, -, a5, -⟩ : xT (qmbec I 33 6) 33 (kp I) := t1.bec hok apM (fun _ _ => rfl)
  have hz' : I 114 31 = nI z := by rw [← (cf 114 (by omega) (by omega)).1]; exact hz
  have ez : qmbec I 33 6 (33 + 7) 3 = nI z := a5.symm.trans hz'
  have ec : qmbec I 33 6 33 1 = nI c' := a1.symm.trans (show I 114 0 = nI c' by rw [← (cf 114 (by omega) (by omega)).1]; exact hc')
  have key : ∀ k, k ≤ z → xDo (qplanN (qmbec I 33 6) 33 w0 k) (mplanN M k) 33 w0 ∧ qplanN (qmbec I 33 6) 33 w0 k 33 1 = nI c' ∧ ∃ d, d ≤ 9999 + k ∧ qplanN (qmbec I 33 6) 33 w0 k 33 4 = nI d := by
    intro k
    induction k with
    | zero => intro _; exact ⟨st, ec, d, by omega, hd⟩
    | succ k ih =>
      intro hk
      obtain ⟨i1, i2, d', d1, i3⟩ := ih (by omega)
      obtain ⟨u1, u2⟩ := uP z k z10 ez (by omega)
      obtain ⟨s1, s2⟩ := kpa_s2 k (by omega)
      have e134 : M 134 k = qmbec I 33 6 (33 + 8) k := by rw [mI 134 (by omega) (by omega) (by omega), ← u1]; unfold kp; rw [s1]
      have n8 : qplanN (qmbec I 33 6) 33 w0 k (33 + 8) = qmbec I 33 6 (33 + 8) := qplanN_n ok2 (by omega) (by omega) k
      have n9 : qplanN (qmbec I 33 6) 33 w0 k (33 + 9) = qmbec I 33 6 (33 + 9) := qplanN_n ok2 (by omega) (by omega) k
      rw [qplanN, mplanN]
      have okk := ok2.planN (i := w0) k
      generalize qplanN (qmbec I 33 6) 33 w0 k = K at *
      generalize mplanN M k = M1 at *
      unfold qplan1 mplan1
      rw [n8, n9, e134]
      by_cases q1 : qmbec I 33 6 (33 + 8) k = 0
      · rw [if_pos q1, if_pos q1]
        refine ⟨i1.one ap ⟨d', i3, by omega⟩, by rw [qgoN_f okk (by decide)]; exact i2, d' + 1, by omega, qgoN_d i3 1⟩
      · rw [if_neg q1, if_neg q1]
        obtain ⟨u3, c2, p, c26, hc2, hp, ep⟩ := u2.resolve_left q1
        have : c2 = c' := (nI_eq (by omega) (by omega)).mp (hc2.symm.trans ec)
        subst this
        have e135 : M 135 k = nI p := by rw [mI 135 (by omega) (by omega) (by omega), ← ep, ← u3]; unfold kp; rw [s2]
        rw [ep, e135, i2, if_neg (by rw [qisM_p (by omega) hp]; decide), qcl (n := p) (by omega)]
        by_cases q2 : qmbec I 33 6 (33 + 8) k = 3
        · rw [if_pos q2, if_pos q2]
          obtain ⟨-, -, -, s4⟩ := i1.sums (c := c2) (by obtain ⟨cc, _, _, cc6, _, hk1, hk2, _⟩ := i1; rw [hk2, ← hk1]; exact i2) c6
          obtain ⟨-, -, -, g3, -⟩ := s4 p hp
          rw [g3]
          exact ⟨i1.fld ap (by omega) (Or.inr (Or.inl ⟨rfl, rfl⟩)), by rw [qup_o (by unfold qm; omega)]; exact i2, d', by omega, by rw [qup_o (by unfold qm; omega)]; exact i3⟩
        · rw [if_neg q2, if_neg q2]
          exact ⟨i1.fld ap (by omega) (Or.inr (Or.inr (Or.inr ⟨rfl, rfl, by split; exact Or.inr rfl; exact Or.inl rfl⟩))), by rw [qup_o (by unfold qm; omega)]; exact i2, d', by omega, by rw [qup_o (by unfold qm; omega)]; exact i3⟩
  obtain ⟨i1, i2, -⟩ := key z (Nat.le_refl z)
  obtain ⟨s1, s2, -⟩ := i1.sums (c := c') (by obtain ⟨cc, _, _, cc6, _, hk1, hk2, _⟩ := i1; rw [hk2, ← hk1]; exact i2) c6
  unfold cpl
  rw [ez, qcl (n := z) (by omega), s1, s2]
theorem aCanN_cg {f f2 : Nat → Int32} : ∀ k m l, (∀ n, n < k → f n = f2 n) → aCanN f k m l = aCanN f2 k m l := by
  intro k
  induction k with
  | zero => intro m l _; rfl
  | succ k ih =>
    intro m l h
    rw [aCanN, aCanN, h k (by omega), ih m l (fun n hn => h n (by omega)), ih (m + 1) (nI k) (fun n hn => h n (by omega))]
theorem nI99 : ∀ n, n ≤ 99 → nI n ≤ 99 := by decide
theorem x_can {x w y : Int32} (g : uINV S I J) (pK : ∃ c w0, c ≤ 6 ∧ I 6 1 = nI c ∧ qR S 6 5 = some w0 ∧ v = some (.int (ca_can I w0 c x w y))) (hK : KQ0 S I J T v S1 I1 J1) (pR : ∃ c z, c ≤ 6 ∧ I1 114 0 = nI c ∧ z ≤ 5 ∧ I1 114 27 = nI z ∧ v2 = some (.int (ga_can I1 c z x w y))) : v = v2 := by
  have cf := hK.2.2.1
  obtain ⟨c, w0, c6, hc, hw, hv⟩ := pK
  obtain ⟨c', z, c6', hc', z5, hz, hv2⟩ := pR
  obtain rfl := x_cc g hK c6 hc c6' hc'
  rw [hv, hv2]
  congr 2
  unfold ca_can ga_can aCan
  by_cases q : qwithin x 0 (nI c' - 1) = 0
  · rw [if_pos q, if_pos q]
  rw [if_neg q, if_neg q]
  by_cases q2 : qwithin w 0 2 = 0
  · rw [if_pos q2, if_pos q2]
  rw [if_neg q2, if_neg q2]
  obtain ⟨p, hp, rfl⟩ := qisM_y (show c' < 2 ^ 31 by omega) q
  rw [qcl (n := p) (by omega)]
  have mI : ∀ a, 114 ≤ a → a ≤ 147 → a ≠ 140 → I1 a = I a := fun a a1 a2 a3 => (cf a a1 a2).1
  obtain ⟨st, ap, d, d9, hd⟩ := g.start (M := I1) hw mI
  obtain ⟨⟨wa, wb, wc, bl, hC⟩, -, hr, t1, -⟩ := id g.1.1
  have hok : qMgOK I 6 9999 := hC.2.2.2.2.1
  have hah : cAh0 I := hC.2.2.2.2.2.2.2.1
  have apM : qApM 33 6 := by unfold qApM; omega
  have ok2 : qMgOK (qmbec I 33 6) 33 9999 := qmbec_ok hok apM hah.1 hah.2
  obtain ⟨uS, -, -⟩ : uN (qmbec I 33 6) 33 (kp I) := g.2.1.bec hok apM (fun _ _ _ => rfl)
  obtain ⟨a1, -, -, a4, -⟩ : xT (qmbec I 33 6) 33 (kp I) := t1.bec hok apM (fun _ _ => rfl)
  have ez : qmbec I 33 6 (33 + 3) 3 = nI z := a4.symm.trans (by
    show I 114 27 = nI z
    rw [← (cf 114 (by omega) (by omega)).1]; exact hz)
  have same : ∀ n, n < cmo w → cSn I w0 w p n = mseenN (qup I1 (mca w) p (nI n)) p z z := by
    intro n hn
    have n99 : n ≤ 99 := by
      unfold cmo at hn
      split at hn
      · omega
      · split at hn <;> omega
    have hf : xDo (qup (qmbec I 33 6) (qm 33 p) (ccf w) (nI n)) (qup I1 (mca w) p (nI n)) 33 w0 := by
      refine st.fld ap (by omega) ?_
      unfold ccf mca
      by_cases e0 : w = 0
      · rw [if_pos e0, if_pos e0]; exact Or.inr (Or.inl ⟨rfl, rfl⟩)
      · rw [if_neg e0, if_neg e0]
        by_cases e1 : w = 1
        · rw [if_pos e1, if_pos e1]; exact Or.inr (Or.inr (Or.inl ⟨rfl, rfl, nI99 n n99⟩))
        · rw [if_neg e1, if_neg e1]; exact Or.inl ⟨rfl, rfl⟩
    have k0 : ∀ a, a < 48 → qup (qmbec I 33 6) (qm 33 p) (ccf w) (nI n) a = qmbec I 33 6 a := fun a ha => qup_row (by unfold qm; omega)
    have m0 : ∀ a, 119 ≤ a → qup I1 (mca w) p (nI n) a = I1 a := fun a ha => qup_row (by have := mca_in w; omega)
    unfold cSn
    rw [ez, qcl (n := z) (by omega)]
    obtain ⟨-, -, dd, -, -, -, -, -, -, hdK, hdM, hdd, hil, -, hpp⟩ := hf
    obtain ⟨p1, p2, p3⟩ : (∃ c2, p < c2 ∧ True) ∧ True ∧ True := ⟨⟨c', hp, trivial⟩, trivial, trivial⟩
    have hMo := st.fld ap (show p < 6 by omega) (jj := ccf w) (a := mca w) (y := nI n) (by
      unfold ccf mca
      by_cases e0 : w = 0
      · rw [if_pos e0, if_pos e0]; exact Or.inr (Or.inl ⟨rfl, rfl⟩)
      · rw [if_neg e0, if_neg e0]
        by_cases e1 : w = 1
        · rw [if_pos e1, if_pos e1]; exact Or.inr (Or.inr (Or.inl ⟨rfl, rfl, nI99 n n99⟩))
        · rw [if_neg e1, if_neg e1]; exact Or.inl ⟨rfl, rfl⟩)
    obtain ⟨-, -, -, s4⟩ := hMo.sums (c := c') (by rw [qup_row (by have := mca_in w; omega)]; exact hc') c6
    obtain ⟨g0, g1, g2, g3, g4, g5, g6, gb, gw, gr⟩ := s4 p hp
    have lp : ∀ j, j ≤ z → qseenN (qup (qmbec I 33 6) (qm 33 p) (ccf w) (nI n)) 33 w0 (qm 33 p) z j = mseenN (qup I1 (mca w) p (nI n)) p z j := by
      intro j
      induction j with
      | zero => intro _; rfl
      | succ j ih =>
        intro hj
        obtain ⟨u1, u2, u3⟩ := uS z (z - (j + 1)) z5 ez (by omega)
        obtain ⟨s1, s2, s3⟩ := kpa_s1 (z - (j + 1)) (by omega)
        rw [qseenN, mseenN, ih (by omega), k0 (33 + 4) (by omega), k0 (33 + 5) (by omega), k0 (33 + 6) (by omega), m0 131 (by omega), m0 132 (by omega), m0 133 (by omega), g0]
        have e1 : I1 131 (z - (j + 1)) = qmbec I 33 6 (33 + 4) (z - (j + 1)) := by rw [(cf 131 (by omega) (by omega)).1, ← u1]; unfold kp; rw [s1]
        have e2 : I1 132 (z - (j + 1)) = qmbec I 33 6 (33 + 5) (z - (j + 1)) := by rw [(cf 132 (by omega) (by omega)).1, ← u2]; unfold kp; rw [s2]
        have e3 : I1 133 (z - (j + 1)) = qmbec I 33 6 (33 + 6) (z - (j + 1)) := by rw [(cf 133 (by omega) (by omega)).1, ← u3]; unfold kp; rw [s3]
        rw [e1, e2, e3]
        obtain ⟨t, t20, et⟩ := ok2.2.2.2.2.2.2.2 (z - (j + 1)) (by omega)
        rw [et]
        have pe : qpainAt (qup (qmbec I 33 6) (qm 33 p) (ccf w) (nI n)) 33 w0 (qm 33 p) (nI t) = mpain (qup I1 (mca w) p (nI n)) p (qup I1 (mca w) p (nI n) 114 10 + nI t) (qmin 99 (qup I1 (mca w) p (nI n) 118 p + nI t)) := by
          unfold qpainAt
          rw [hdK, hdM, g4, nI_add]
          exact x_pain g0 g1 g2 g3 gr hil (by omega)
        rw [pe]
    exact lp z (Nat.le_refl z)
  by_cases q3 : qwithin y 0 1 = 0
  · rw [if_pos q3, if_pos q3]
  rw [if_neg q3, if_neg q3]
  rw [aCanN_cg (f := fun n => cSn I w0 w p n) (f2 := fun n => mseenN (qup I1 (mca w) p (nI n)) p z z) (cmo w) 0 (-5) same]
theorem x_looked (g : uINV S I J) (pK : ∃ c z, c ≤ 6 ∧ I 6 1 = nI c ∧ z ≤ 8 ∧ I 17 3 = nI z ∧ v = some (.int (ca_looked I c z))) (hK : KQ0 S I J T v S1 I1 J1) (pR : ∃ z, z ≤ 8 ∧ I1 114 34 = nI z ∧ v2 = some (.int (ga_looked I1 z))) : v = v2 := by
  have cf := hK.2.2.1
  obtain ⟨c, z, c6, hc, z8, hz, hv⟩ := pK
  obtain ⟨z', z8', hz', hv2⟩ := pR
  have tie := g.1.1.2.2.2
  have ez : z' = z := (nI_eq (by omega) (by omega)).mp (hz'.symm.trans (by rw [(cf 114 (by omega) (by omega)).1]; exact tie.1.2.2.2.2.2.1.trans hz))
  subst ez
  rw [hv, hv2]
  congr 2
  unfold ca_looked ga_looked
  refine aTurn_cg z' 0 (fun j _ hj => ?_)
  obtain ⟨u1, u2, c2, p, c26, hc2, hp, ep⟩ := g.2.1.2.2 z' j z8 hz (by omega)
  have : c2 = c := (nI_eq (by omega) (by omega)).mp (hc2.symm.trans hc)
  subst this
  obtain ⟨s1, s2⟩ := kpa_s3 j (by omega)
  have e1 : I1 136 j = nI p := by rw [(cf 136 (by omega) (by omega)).1, ← ep, ← u1]; unfold kp; rw [s1]
  have e2 : I1 137 j = I 19 j := by rw [(cf 137 (by omega) (by omega)).1]; refine Eq.trans ?_ u2; unfold kp; rw [s2]
  have ep' : I 18 j = nI p := ep
  obtain ⟨-, -, h5, -⟩ := g.1.2.2.1 c2 p c6 hc hp
  obtain ⟨-, -, g3, -⟩ := kp_h4 (I := I) (p := p) (by omega)
  have e119 : I1 119 p = I (qm 6 p) 5 := by rw [(cf 119 (by omega) (by omega)).1, ← g3, h5]
  show (if ¬ qwithin (I 18 j) 0 (nI c2 - 1) = 0 ∧ ¬ I (qm 6 (I 18 j).toNatClampNeg) 5 = I 19 j then (1 : Int32) else 0) = if I1 119 (I1 136 j).toNatClampNeg = I1 137 j then 0 else 1
  rw [ep', e1, e2, qcl (n := p) (by omega), e119]
  by_cases q : I (qm 6 p) 5 = I 19 j
  · rw [if_pos q, if_neg (fun w => w.2 q)]
  · rw [if_neg q, if_pos ⟨by rw [qisM_p (by omega) hp]; decide, q⟩]
end U13
