/-! class and reference side by side: the text, islands, counts -/
theorem nlt0 {j : Nat} (h : j < 2 ^ 31) : ¬ nI j < 0 := nI_pos h
theorem xTie.six {I I2 : qI} {J J2 : qJ} (h : xTie I J) (r : ∀ a, ((6 ≤ a ∧ a ≤ 32) ∨ (60 ≤ a ∧ a ≤ 86) ∨ (99 ≤ a ∧ a ≤ 113)) → I2 a = I a ∧ J2 a = J a) (e04 : I2 0 4 = I 0 4) (kk : ∀ j, j < 123 → kp I2 j = kp I j) (e139 : I2 139 = I 139) (e39 : I2 114 39 = I 114 39) (e37 : I2 114 37 = I 114 37 ∧ I2 138 = I 138) (e145 : ∀ a, 145 ≤ a → a ≤ 147 → I2 a = I a ∧ J2 a = J a) (hx : xTX I2) : xTie I2 J2 := by
  obtain ⟨t1, t2, t3, t4, t5, t6⟩ := h
  refine ⟨t1.rows (fun a a1 a2 => (r a (by omega)).1) (fun j hj => kk j (by unfold cDj at hj; omega)), ?_, fun h1 => ?_, fun t ht => ?_, t5.fr (by rw [(r 99 (by omega)).1]) (r 100 (by omega)).1 e37.1 e37.2 (fun p hp => by rw [(r (qm 6 p) (by unfold qm; omega)).1]), hx⟩
  · rw [e39, e04]; exact t2
  · rw [e04] at h1
    rw [e139]
    exact (t3 h1).rows (fun a a1 a2 => (r a (by omega)).1) (fun j _ => rfl)
  · obtain ⟨b1, b2, b3, b4⟩ := t4 t ht
    rw [(e145 145 (by omega) (by omega)).1, (e145 146 (by omega) (by omega)).1, (r (102 + 2 * t) (by omega)).1]
    exact ⟨b1, b2, fun i hi => by rw [(e145 147 (by omega) (by omega)).2, (r (102 + 2 * t + 1) (by omega)).2]; exact b3 i hi, b4⟩
theorem xINV.feed {S S1 S2 : qSh} {I I1 I2 : qI} {J J1 J2 : qJ} {T T2 : qI → Prop} {v v2 : Option Value} {x : Int32} (g : xINV S I J) (pK : ∃ z, z ≤ 100 ∧ I 87 1 = nI z ∧ v = some (.int (ca_feed z x)) ∧ I1 = ci_feed I z x ∧ J1 = J) (hK : KQ0 S I J T v S1 I1 J1) (pR : v2 = some (.int (ga_Md_feed I1 J1 x)) ∧ I2 = gi_Md_feed I1 J1 x ∧ J2 = gj_Md_feed I1 J1 x) (hV : RQ0 S1 I1 J1 T2 v2 S2 I2 J2) : xINV S2 I2 J2 ∧ v = v2 := by
  have cf := hK.2.2.1
  have rf := hV.2.2.1
  have tie := g.2.2.2
  obtain ⟨z, z100, hz, hv, hI1, rfl⟩ := pK
  obtain ⟨hv2, hI2, hJ2⟩ := pR
  have j2 : J2 = J1 := by rw [hJ2]; unfold gj_Md_feed; (repeat' split) <;> rfl
  obtain ⟨x1, x2, x3⟩ := tie.2.2.2.2.2
  have h11 : I1 114 11 = nI z := by rw [(cf 114 (by omega) (by omega)).1, ← x2]; exact hz
  unfold ca_feed at hv
  unfold ci_feed at hI1
  unfold ga_Md_feed at hv2
  unfold gi_Md_feed at hI2
  rw [h11] at hv2 hI2
  have idn : I1 = I → I2 = I1 → xINV S2 I2 J2 := fun h1 h2 => g.mk2 hK hV (tie.idn h1 rfl h2 j2)
  by_cases q0 : qwithin x 0 127 = 0
  · rw [if_pos q0] at hv hI1 hv2 hI2
    exact ⟨idn hI1 hI2, hv.trans hv2.symm⟩
  rw [if_neg q0] at hv hI1 hv2 hI2
  by_cases q1 : z < 100
  · have n1 : ¬ nI z = 100 := fun w => by
      have := (nI_eq (by omega) (by omega)).mp (show nI z = nI 100 from w)
      omega
    rw [if_pos q1] at hv hI1
    rw [if_neg n1, q1k] at hv2
    rw [if_neg n1, q1k, qcl (by omega)] at hI2
    have r1 : ∀ a, a ≠ 87 → a ≠ 88 → I1 a = I a := fun a a1 a2 => by rw [hI1, qup_row a1, qup_row a2]
    have r2 : ∀ a, a ≠ 114 → a ≠ 123 → I2 a = I1 a := fun a a1 a2 => by rw [hI2, qup_row a2, qup_row a1]
    have f2 : ∀ j, j ≠ 11 → I2 114 j = I1 114 j := fun j hj => by rw [hI2, qup_o (by decide), qup_j hj]
    have kk : ∀ j, j < 124 → kp I2 j = kp I j := fun j hj => by
      obtain ⟨b1, b2⟩ := kpa_11 j hj
      rw [← kp_far cf hj]
      unfold kp
      by_cases w : (kpa j).1 = 114
      · rw [w] at b1 ⊢
        exact f2 _ (fun y => b1 ⟨rfl, y⟩)
      · rw [r2 _ w b2]
    have c114 := (cf 114 (by omega) (by omega)).1
    have y1 : I2 87 1 = nI (z + 1) := by rw [r2 87 (by omega) (by omega), hI1, qup_at]
    refine ⟨g.mk2 hK hV (tie.six (fun a ha => ⟨by rw [r2 a (by omega) (by omega), r1 a (by omega) (by omega)], by rw [j2]⟩) (by rw [r2 0 (by omega) (by omega), r1 0 (by omega) (by omega)]) (fun j hj => kk j (by omega)) (by rw [r2 139 (by omega) (by omega), (cf 139 (by omega) (by omega)).1]) (by rw [f2 39 (by decide), c114]) ⟨by rw [f2 37 (by decide), c114], by rw [r2 138 (by omega) (by omega), (cf 138 (by omega) (by omega)).1]⟩ (fun a a1 a2 => ⟨by rw [r2 a (by omega) (by omega), (cf a (by omega) (by omega)).1], by rw [j2]⟩) ⟨?_, ?_, fun j hj hk => ?_⟩), hv.trans hv2.symm⟩
    · rw [r2 0 (by omega) (by omega), r1 0 (by omega) (by omega), f2 17 (by decide), c114]; exact x1
    · rw [y1, hI2, qup_o (by decide), qup_at]
    · rw [y1] at hk
      have hjz : j < z + 1 := (nI_ltI (by omega) (by omega)).mp hk
      have e1 : I2 88 j = if j = z then x else I 88 j := by
        rw [r2 88 (by omega) (by omega), hI1, qup_o (by decide)]
        by_cases w : j = z
        · subst w; rw [qup_at, if_pos rfl]
        · rw [qup_j w, if_neg w]
      have e2 : I2 123 j = if j = z then x else I 123 j := by
        rw [hI2]
        by_cases w : j = z
        · subst w; rw [qup_at, if_pos rfl]
        · rw [qup_j w, if_neg w, qup_o (by decide), (cf 123 (by omega) (by omega)).1]
      rw [e1, e2]
      by_cases w : j = z
      · rw [if_pos w, if_pos w]
      · rw [if_neg w, if_neg w]
        exact x3 j hj (by rw [hz]; exact (nI_ltI (by omega) (by omega)).mpr (by omega))
  · have n1 : nI z = 100 := by rw [show z = 100 by omega]; rfl
    rw [if_neg q1] at hv hI1
    rw [if_pos n1] at hv2 hI2
    exact ⟨idn hI1 hI2, hv.trans hv2.symm⟩
theorem xTX.tx {I : qI} {n bl : Nat} (h : xTX I) (hx : qTx I (I 88) n bl) : qTx I (I 123) n bl := by
  obtain ⟨a1, a2, a3, a4⟩ := hx
  have e : ∀ j, j < n → I 88 j = I 123 j := fun j hj => h.2.2 j (by omega) (by rw [a1]; exact (nI_ltI (by omega) (by omega)).mpr hj)
  exact ⟨a1, a2, fun j hj => ⟨e j hj, by rw [← e j hj]; exact (a3 j hj).2⟩, a4⟩
theorem xINV.isl6 {S S1 S2 : qSh} {I I1 I2 : qI} {J J1 J2 : qJ} {T T2 : qI → Prop} {v v2 : Option Value} (g : xINV S I J) (h6 : I 0 7 = 6) (pK : v = some (.int (-4)) ∧ cU I I1 J J1) (hK : KQ0 S I J T v S1 I1 J1) (pR : xRi I1 v2 I2) (hr : rIs I1 I2 J1 J2) (hV : RQ0 S1 I1 J1 T2 v2 S2 I2 J2) : xINV S2 I2 J2 ∧ v = v2 := by
  have cf := hK.2.2.1
  have rf := hV.2.2.1
  have tie := g.2.2.2
  obtain ⟨hv, u⟩ := pK
  obtain ⟨x1, x2, x3⟩ := tie.2.2.2.2.2
  have c114 := (cf 114 (by omega) (by omega)).1
  rcases pR with ⟨-, hv2, r17, r11, r123⟩ | ⟨g', z, cz, g6, hg, -⟩
  · refine ⟨g.mk2 hK hV (tie.six (fun a ha => ⟨by rw [(rf a (by omega)).1, (u.1 a (by omega)).1], by rw [(rf a (by omega)).2, (u.1 a (by omega)).2]⟩) (by rw [(rf 0 (by omega)).1, u.2]) (fun j hj => by rw [hr.1 j hj, kp_far cf (by omega)]) (by rw [hr.2.1, (cf 139 (by omega) (by omega)).1]) (by rw [hr.2.2.1, c114]) ⟨by rw [hr.2.2.2.1.1, c114], by rw [hr.2.2.2.1.2, (cf 138 (by omega) (by omega)).1]⟩ (fun a a1 a2 => ⟨by rw [(hr.2.2.2.2 a a1 a2).1, (cf a (by omega) (by omega)).1], by rw [(hr.2.2.2.2 a a1 a2).2, (cf a (by omega) (by omega)).2]⟩) ?_), hv.trans hv2.symm⟩
    exact tie.2.2.2.2.2.fr (by rw [(rf 0 (by omega)).1, (u.1 0 (by omega)).1]) (by rw [(rf 87 (by omega)).1, (u.1 87 (by omega)).1]) (by rw [(rf 88 (by omega)).1, (u.1 88 (by omega)).1]) (by rw [r17, c114]) (by rw [r11, c114]) (by rw [r123, (cf 123 (by omega) (by omega)).1])
  · exfalso
    rw [c114, ← x1, h6] at hg
    have := (nI_eq (by omega) (by omega)).mp (show nI 6 = nI g' from hg)
    omega
/-- an attempt's frame -/
theorem xINV.isl0 {S S1 S2 : qSh} {I I1 I2 : qI} {J J1 J2 : qJ} {T T2 : qI → Prop} {v v2 : Option Value} (g : xINV S I J) (hJ : J1 = J) (hc : cIs I I1) (hK : KQ0 S I J T v S1 I1 J1) (hr : rIs I1 I2 J1 J2) (hV : RQ0 S1 I1 J1 T2 v2 S2 I2 J2) (h07 : I2 0 7 = I2 114 17) (h11 : I2 114 11 = 0) : xINV S2 I2 J2 := by
  have cf := hK.2.2.1
  have rf := hV.2.2.1
  have tie := g.2.2.2
  subst hJ
  have c114 := (cf 114 (by omega) (by omega)).1
  have y1 : I2 87 1 = 0 := by rw [(rf 87 (by omega)).1]; exact hc.2.2
  refine g.mk2 hK hV (tie.six (fun a ha => ⟨by rw [(rf a (by omega)).1, hc.1 a ha], by rw [(rf a (by omega)).2]⟩) (by rw [(rf 0 (by omega)).1, hc.2.1]) (fun j hj => by rw [hr.1 j hj, kp_far cf (by omega)]) (by rw [hr.2.1, (cf 139 (by omega) (by omega)).1]) (by rw [hr.2.2.1, c114]) ⟨by rw [hr.2.2.2.1.1, c114], by rw [hr.2.2.2.1.2, (cf 138 (by omega) (by omega)).1]⟩ (fun a a1 a2 => ⟨by rw [(hr.2.2.2.2 a a1 a2).1, (cf a (by omega) (by omega)).1], by rw [(hr.2.2.2.2 a a1 a2).2]⟩) ⟨h07, by rw [y1, h11], fun j hj hk => ?_⟩)
  rw [y1] at hk
  exact absurd hk (nlt0 (by omega))
theorem xINV.isl {S S1 S2 : qSh} {I I1 I2 : qI} {J J1 J2 : qJ} {T T2 : qI → Prop} {v v2 : Option Value} {n : Nat} (g : xINV S I J) (h6 : ¬ I 0 7 = 6) (hn : I 87 1 = nI n) (n100 : n ≤ 100) (hJ : J1 = J) (hc : cIs I I1) (hK : KQ0 S I J T v S1 I1 J1) (pR : xRi I1 v2 I2) (hr : rIs I1 I2 J1 J2) (hV : RQ0 S1 I1 J1 T2 v2 S2 I2 J2) (hk : (rok (rread (I 123) n) n = 0 ∧ v = some (.int (-10 - nI (rread (I 123) n).1.1)) ∧ I1 0 7 = I 0 7) ∨ (¬ rok (rread (I 123) n) n = 0 ∧ (∃ g, g < 6 ∧ I 0 7 = nI g ∧ v = some (.int (nI g))) ∧ I1 0 7 = I 0 7 + 1)) : xINV S2 I2 J2 ∧ v = v2 := by
  have cf := hK.2.2.1
  have rf := hV.2.2.1
  obtain ⟨x1, x2, x3⟩ := g.2.2.2.2.2.2.2.2
  have c114 := (cf 114 (by omega) (by omega)).1
  have e123 : I1 123 = I 123 := (cf 123 (by omega) (by omega)).1
  rcases pR with ⟨h17, -⟩ | ⟨g', z, cz, g6, hg, z100, hz, hf, h11, hR⟩
  · rw [c114, ← x1] at h17
    exact absurd h17 h6
  · have ez : z = n := (nI_eq (by omega) (by omega)).mp (hz.symm.trans (by rw [c114, ← x2]; exact hn))
    subst ez
    have hg0 : I 0 7 = nI g' := by rw [x1, ← c114]; exact hg
    have e0 : I2 0 7 = I1 0 7 := by rw [(rf 0 (by omega)).1]
    rw [e123] at hf hR
    obtain ⟨p1, p2⟩ := x_parse (f := I 123) (n := z) hf z100 (h := g') (cz := cz) (B := I1)
    rcases hR with ⟨c, hv2, e17⟩ | ⟨c, hv2, e17⟩
    · rcases hk with ⟨q, -, -⟩ | ⟨-, ⟨g1, g16, hg1, hv⟩, e7⟩
      · exact absurd q (p2.mp c)
      · have eg : g1 = g' := (nI_eq (by omega) (by omega)).mp (hg1.symm.trans hg0)
        subst eg
        exact ⟨g.isl0 hJ hc hK hr hV (by rw [e0, e7, hg0, e17, q1k]) h11, hv.trans hv2.symm⟩
    · rcases hk with ⟨-, hv, e7⟩ | ⟨q, -, -⟩
      · exact ⟨g.isl0 hJ hc hK hr hV (by rw [e0, e7, hg0, e17]) h11, by rw [hv, hv2, p1]⟩
      · exact absurd (p2.mpr q) c
theorem x_count {I I1 : qI} {J J1 : qJ} {x : Int32} (tie : xTie I J) (cf : cFar I I1 J J1) : ca_count I x = ga_Md_count I1 J1 x := by
  obtain ⟨⟨a1, a2, a3, a4, a5, a6, -, -⟩, -, -, -, ⟨n1, -, -⟩, ⟨x1, x2, -⟩⟩ := tie
  have c := (cf 114 (by omega) (by omega)).1
  have b1 : I 114 0 = I 6 1 := a1
  have b2 : I 114 8 = I 6 3 := a2
  have b4 : I 114 27 = I 9 3 := a4
  have b5 : I 114 31 = I 13 3 := a5
  have b6 : I 114 34 = I 17 3 := a6
  unfold ca_count ga_Md_count
  rw [c, b1, b2, b4, b5, b6, ← x1, ← x2, ← n1]
