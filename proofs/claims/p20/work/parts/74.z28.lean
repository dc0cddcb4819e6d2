/-! class and reference side by side: the list, a mourner, days -/
theorem qplace_cg {f g : Nat → Int32} {x : Int32} {n : Nat} (h : ∀ i, i < n → f i = g i) : ∀ j, j ≤ n → qplace f x n j = qplace g x n j := by
  intro j
  induction j with
  | zero => intro _; rfl
  | succ j ih => intro hj; rw [qplace, qplace, ih (by omega), h _ (by omega)]
theorem rDat.fr6 {I : qI} {c l : Nat} (h : rDat I) (hc0 : I 114 0 = nI c) (c60 : c ≤ 6) (hl0 : I 114 8 = nI l) (l60 : l ≤ 6) : ∀ q, q < c → qplace (I 122) (nI q) l l = -5 → l < 6 := by
  obtain ⟨c', c6, hc, l', l6, hl, ha, hb, h3⟩ := h.lst
  have ec : c' = c := (nI_eq (by omega) (by omega)).mp (hc.symm.trans hc0)
  have el : l' = l := (nI_eq (by omega) (by omega)).mp (hl.symm.trans hl0)
  subst ec; subst el
  intro q hq hp
  have no := qplace_no (f := I 122) (x := nI q) (n := l') l6 l' (Nat.le_refl _) hp
  rcases Nat.lt_or_ge l' 6 with w | w
  · exact w
  · exfalso
    refine qpig 6 (fun i => if i < l' then (I 122 i).toNatClampNeg else q) (fun i hi => ?_) (fun i j hij hj => ?_)
    · split
      · rename_i w2
        obtain ⟨p, p1, p2⟩ := ha i w2
        rw [p2, qcl (by omega)]; omega
      · omega
    · rw [if_pos (show i < l' by omega)]
      obtain ⟨p1, p2, p3⟩ := ha i (by omega)
      split
      · rename_i w2
        obtain ⟨r1, r2, r3⟩ := ha j w2
        rw [p3, r3, qcl (by omega), qcl (by omega)]
        intro z
        refine hb i j hij w2 ?_
        rw [p3, r3, z]
      · rw [p3, qcl (by omega)]
        intro z
        refine no i (by omega) (by omega) ?_
        rw [p3, z]
theorem xT.list {I I' : qI} {f f' : Nat → Int32} (h : xT I 6 f) (f6 : ∀ j, j ≠ 3 → I' 6 j = I 6 j) (k : ∀ a, a ≠ 6 → a ≠ 8 → I' a = I a) (hf : ∀ j, cDj j → (j < 36 ∨ 42 ≤ j) → j ≠ 118 → f' j = f j) (n3 : f' 118 = I' 6 3) (hl : ∀ l i, l ≤ 6 → I' 6 3 = nI l → i < l → f' (36 + i) = I' 8 i) : xT I' 6 f' := by
  obtain ⟨a1, a2, a3, a4, a5, a6, a7, a8⟩ := h
  unfold cDj at hf
  refine ⟨?_, n3, ?_, ?_, ?_, ?_, fun c p hc e hp => ?_, hl⟩
  · rw [hf _ (by omega) (by omega) (by omega), f6 1 (by omega)]; exact a1
  · rw [hf _ (by omega) (by omega) (by omega), f6 4 (by omega)]; exact a3
  · rw [hf _ (by omega) (by omega) (by omega), k (6 + 3) (by omega) (by omega)]; exact a4
  · rw [hf _ (by omega) (by omega) (by omega), k (6 + 7) (by omega) (by omega)]; exact a5
  · rw [hf _ (by omega) (by omega) (by omega), k (6 + 11) (by omega) (by omega)]; exact a6
  · rw [f6 1 (by omega)] at e
    obtain ⟨b1, b0, b2⟩ := a7 c p hc e hp
    refine ⟨by rw [hf _ (by omega) (by omega) (by omega), k (qm 6 p) (by unfold qm; omega) (by unfold qm; omega)]; exact b1, by rw [hf _ (by omega) (by omega) (by omega), k (qm 6 p) (by unfold qm; omega) (by unfold qm; omega)]; exact b0, fun r hr => ?_⟩
    rw [hf _ (by omega) (by omega) (by omega), k (qm 6 p + 1) (by unfold qm; omega) (by unfold qm; omega)]; exact b2 r hr
theorem kpa_nls : ∀ j, j < 124 → (j < 36 ∨ 42 ≤ j) → j ≠ 118 → (kpa j).1 ≠ 122 ∧ ¬ ((kpa j).1 = 114 ∧ (kpa j).2 = 8) := by decide +kernel
theorem xINV.list {S S1 S2 : qSh} {I I1 I2 : qI} {J J1 J2 : qJ} {T T2 : qI → Prop} {v v2 : Option Value} {p : Int32} (g : xINV S I J) (pK : ∃ c l, c ≤ 6 ∧ I 6 1 = nI c ∧ l ≤ 6 ∧ I 6 3 = nI l ∧ v = some (.int (ca_list I c l p)) ∧ I1 = ci_list I c l p ∧ J1 = J) (hK : KQ0 S I J T v S1 I1 J1) (pR : ∃ l, l ≤ 6 ∧ I1 114 8 = nI l ∧ v2 = some (.int (ga_Md_list I1 J1 l p)) ∧ I2 = gi_Md_list I1 J1 l p ∧ J2 = gj_Md_list I1 J1 l p) (hV : RQ0 S1 I1 J1 T2 v2 S2 I2 J2) : xINV S2 I2 J2 ∧ v = v2 := by
  have cf := hK.2.2.1
  have rf := hV.2.2.1
  have tie := g.2.2.2
  obtain ⟨c, l, c6, hc, l6, hl, hv, hI1, rfl⟩ := pK
  obtain ⟨l', l6', hl', hv2, hI2, hJ2⟩ := pR
  have j2 : J2 = J1 := by rw [hJ2]; unfold gj_Md_list; (repeat' split) <;> rfl
  have hc0 : I 114 0 = nI c := tie.1.1.trans hc
  have hl0 : I 114 8 = nI l := tie.1.2.1.trans hl
  have hc1 : I1 114 0 = nI c := by rw [(cf 114 (by omega) (by omega)).1]; exact hc0
  have hl1 : I1 114 8 = nI l := by rw [(cf 114 (by omega) (by omega)).1]; exact hl0
  have el : l' = l := (nI_eq (by omega) (by omega)).mp (hl'.symm.trans hl1)
  subst el
  have e122 : I1 122 = I 122 := (cf 122 (by omega) (by omega)).1
  have ls : ∀ i, i < l' → I 122 i = I 8 i := fun i hi => by rw [← kp_122 (I := I) (k := i) (by omega)]; exact tie.1.2.2.2.2.2.2.2 l' i l6 hl hi
  have qp : ∀ y, qplace (I 122) y l' l' = qplace (I 8) y l' l' := fun y => qplace_cg ls l' (Nat.le_refl _)
  have fr := g.2.2.1.fr6 hc0 c6 hl0 l6
  unfold ca_list at hv
  unfold ci_list at hI1
  unfold ga_Md_list at hv2
  unfold gi_Md_list at hI2
  rw [hc1, hl1, e122, qp] at hv2 hI2
  have idn : I1 = I → I2 = I1 → xINV S2 I2 J2 := fun h1 h2 => g.mk2 hK hV (tie.idn h1 rfl h2 j2)
  by_cases q0 : p = -1
  · rw [if_pos q0] at hv hI1 hv2 hI2
    refine ⟨g.mk2 hK hV ?_, hv.trans hv2.symm⟩
    have r1 : ∀ a, a ≠ 6 → I1 a = I a := fun a ha => by rw [hI1, qup_row ha]
    have r2 : ∀ a, a ≠ 114 → I2 a = I1 a := fun a ha => by rw [hI2, qup_row ha]
    refine tie.live (fun a ha => r1 a (by omega)) (fun a ha => rfl) (by rw [r1 0 (by omega)]) cf (r2 139 (by omega)) (by rw [hI2, qup_j (by decide)]) ⟨by rw [hI2, qup_j (by decide)], r2 138 (by omega)⟩ ⟨by rw [hI2, qup_j (by decide)], by rw [hI2, qup_j (by decide)], r2 123 (by omega)⟩ (fun u hu => by rw [r1 _ (by unfold qm; omega)]) (fun a a1 a2 => ⟨r2 a (by omega), by rw [j2]⟩) rf ?_
    have base : xT I1 6 (kp I2) := by
      refine tie.1.list (fun j hj => by rw [hI1, qup_j hj]) (fun a a1 a2 => r1 a a1) (fun j hj h1 h2 => ?_) ?_ (fun l i hl6 e hi => ?_)
      · obtain ⟨b1, b2⟩ := kpa_nls j hj.lt h1 h2
        rw [hI2, kp_up0 b2, kp_far cf hj.lt]
      · show I2 114 8 = I1 6 3
        rw [hI2, qup_at, hI1, qup_at]
      · rw [hI1, qup_at] at e
        have : 0 = l := (nI_eq (by omega) (by omega)).mp (show nI 0 = nI l from e)
        omega
    exact base.rows (fun a a1 a2 => (rf a (by omega)).1) (fun j _ => rfl)
  rw [if_neg q0] at hv hI1 hv2 hI2
  by_cases q1 : qwithin p 0 (nI c - 1) = 0
  · rw [if_pos q1] at hv hI1 hv2 hI2
    exact ⟨idn hI1 hI2, hv.trans hv2.symm⟩
  rw [if_neg q1] at hv hI1 hv2 hI2
  obtain ⟨m, m1, rfl⟩ := qisM_y (show c < 2 ^ 31 by omega) q1
  by_cases q2 : qplace (I 8) (nI m) l' l' = -5
  · have l5 := fr m m1 (by rw [qp]; exact q2)
    have n2 : ¬ (0 : Int32) ≤ qplace (I 8) (nI m) l' l' := by rw [q2]; decide
    rw [if_neg n2, if_pos l5] at hv hI1
    rw [if_pos q2, q1k] at hv2
    rw [if_pos q2, q1k, qcl (by omega)] at hI2
    refine ⟨g.mk2 hK hV ?_, hv.trans hv2.symm⟩
    have r1 : ∀ a, a ≠ 6 → a ≠ 8 → I1 a = I a := fun a ha hb => by rw [hI1, qup_row ha, qup_row hb]
    have r2 : ∀ a, a ≠ 114 → a ≠ 122 → I2 a = I1 a := fun a ha hb => by rw [hI2, qup_row hb, qup_row ha]
    refine tie.live (fun a ha => r1 a (by omega) (by omega)) (fun a ha => rfl) (by rw [r1 0 (by omega) (by omega)]) cf (r2 139 (by omega) (by omega)) (by rw [hI2, qup_o (by decide), qup_j (by decide)]) ⟨by rw [hI2, qup_o (by decide), qup_j (by decide)], r2 138 (by omega) (by omega)⟩ ⟨by rw [hI2, qup_o (by decide), qup_j (by decide)], by rw [hI2, qup_o (by decide), qup_j (by decide)], r2 123 (by omega) (by omega)⟩ (fun u hu => by rw [r1 _ (by unfold qm; omega) (by unfold qm; omega)]) (fun a a1 a2 => ⟨r2 a (by omega) (by omega), by rw [j2]⟩) rf ?_
    have base : xT I1 6 (kp I2) := by
      refine tie.1.list (fun j hj => by rw [hI1, qup_j hj, qup_o (by decide)]) r1 (fun j hj h1 h2 => ?_) ?_ (fun l i hl6 e hi => ?_)
      · obtain ⟨b1, b2⟩ := kpa_nls j hj.lt h1 h2
        rw [hI2, kp_up0 (fun w => b1 w.1), kp_up0 b2, kp_far cf hj.lt]
      · show I2 114 8 = I1 6 3
        rw [hI2, qup_o (by decide), qup_at, hI1, qup_at]
      · rw [hI1, qup_at] at e
        have ell : l' + 1 = l := (nI_eq (by omega) (by omega)).mp e
        rw [kp_122 (by omega)]
        by_cases w : i = l'
        · subst w
          rw [hI2, qup_at, hI1, qup_o (by decide), qup_at]
        · have x1 : I2 122 i = I 122 i := by rw [hI2, qup_j w, qup_o (by decide), e122]
          have x2 : I1 8 i = I 8 i := by rw [hI1, qup_o (by decide), qup_j w]
          rw [x1, x2]; exact ls i (by omega)
    exact base.rows (fun a a1 a2 => (rf a (by omega)).1) (fun j _ => rfl)
  · obtain ⟨k, k1, k2, -⟩ := (qplace_in (f := I 8) (x := nI m) (n := l') l' (Nat.le_refl _)).resolve_left q2
    have p2 : (0 : Int32) ≤ qplace (I 8) (nI m) l' l' := by rw [k2]; exact (nI_leI (a := 0) (by omega) (by omega)).mpr (Nat.zero_le _)
    rw [if_pos p2] at hv hI1
    rw [if_neg q2] at hv2 hI2
    exact ⟨idn hI1 hI2, hv.trans hv2.symm⟩
/-! class and reference side by side: swaps, a mourner, days -/
theorem xINV.swap {S S1 S2 : qSh} {I I1 I2 : qI} {J J1 J2 : qJ} {T T2 : qI → Prop} {v v2 : Option Value} {p q : Int32} (g : xINV S I J) (pK : ∃ c l, c ≤ 6 ∧ I 6 1 = nI c ∧ l ≤ 6 ∧ I 6 3 = nI l ∧ v = some (.int (ca_swap I c l p q)) ∧ I1 = ci_swap I c l p q ∧ J1 = J) (hK : KQ0 S I J T v S1 I1 J1) (pR : ∃ l, l ≤ 6 ∧ I1 114 8 = nI l ∧ v2 = some (.int (ga_Md_swap I1 J1 l p q)) ∧ I2 = gi_Md_swap I1 J1 l p q ∧ J2 = gj_Md_swap I1 J1 l p q) (hV : RQ0 S1 I1 J1 T2 v2 S2 I2 J2) : xINV S2 I2 J2 ∧ v = v2 := by
  have cf := hK.2.2.1
  have rf := hV.2.2.1
  have tie := g.2.2.2
  obtain ⟨c, l, c6, hc, l6, hl, hv, hI1, rfl⟩ := pK
  obtain ⟨l', l6', hl', hv2, hI2, hJ2⟩ := pR
  have j2 : J2 = J1 := by rw [hJ2]; unfold gj_Md_swap; (repeat' split) <;> rfl
  have hc0 : I 114 0 = nI c := tie.1.1.trans hc
  have hl0 : I 114 8 = nI l := tie.1.2.1.trans hl
  have hc1 : I1 114 0 = nI c := by rw [(cf 114 (by omega) (by omega)).1]; exact hc0
  have hl1 : I1 114 8 = nI l := by rw [(cf 114 (by omega) (by omega)).1]; exact hl0
  have el : l' = l := (nI_eq (by omega) (by omega)).mp (hl'.symm.trans hl1)
  subst el
  have e122 : I1 122 = I 122 := (cf 122 (by omega) (by omega)).1
  have ls : ∀ i, i < l' → I 122 i = I 8 i := fun i hi => by rw [← kp_122 (I := I) (k := i) (by omega)]; exact tie.1.2.2.2.2.2.2.2 l' i l6 hl hi
  have qp : ∀ y, qplace (I 122) y l' l' = qplace (I 8) y l' l' := fun y => qplace_cg ls l' (Nat.le_refl _)
  unfold ca_swap at hv
  unfold ci_swap at hI1
  unfold ga_Md_swap at hv2
  unfold gi_Md_swap at hI2
  rw [hc1, e122, qp, qp] at hv2 hI2
  have idn : I1 = I → I2 = I1 → xINV S2 I2 J2 := fun h1 h2 => g.mk2 hK hV (tie.idn h1 rfl h2 j2)
  have sg : ∀ y, (qplace (I 8) y l' l' = -5 ∧ qplace (I 8) y l' l' < 0) ∨ ∃ k, k < l' ∧ qplace (I 8) y l' l' = nI k ∧ ¬ nI k < 0 ∧ ¬ nI k = -5 := fun y => by
    rcases qplace_in (f := I 8) (x := y) (n := l') l' (Nat.le_refl _) with w | ⟨k, k1, k2, -⟩
    · exact Or.inl ⟨w, by rw [w]; decide⟩
    · have h5 : ∀ k, k < 6 → ¬ nI k = -5 := by decide
      exact Or.inr ⟨k, k1, k2, Int32.not_lt.mpr ((nI_leI (a := 0) (by omega) (by omega)).mpr (Nat.zero_le _)), h5 k (by omega)⟩
  by_cases q0 : qwithin p 0 (nI c - 1) = 0
  · rw [if_pos q0] at hv hI1 hv2 hI2
    exact ⟨idn hI1 hI2, hv.trans hv2.symm⟩
  rw [if_neg q0] at hv hI1 hv2 hI2
  by_cases q1 : qwithin q 0 (nI c - 1) = 0
  · rw [if_pos q1] at hv hI1 hv2 hI2
    exact ⟨idn hI1 hI2, hv.trans hv2.symm⟩
  rw [if_neg q1] at hv hI1 hv2 hI2
  by_cases q2 : p = q
  · rw [if_pos q2] at hv hI1 hv2 hI2
    exact ⟨idn hI1 hI2, hv.trans hv2.symm⟩
  rw [if_neg q2] at hv hI1 hv2 hI2
  rcases sg p with ⟨w1, w2⟩ | ⟨k, k1, k2, k3, k4⟩
  · rw [if_pos w2] at hv hI1
    rw [if_pos w1] at hv2 hI2
    exact ⟨idn hI1 hI2, hv.trans hv2.symm⟩
  rw [k2, if_neg k3] at hv hI1
  rw [k2, if_neg k4] at hv2 hI2
  rcases sg q with ⟨w1, w2⟩ | ⟨m, m1, m2, m3, m4⟩
  · rw [if_pos w2] at hv hI1
    rw [if_pos w1] at hv2 hI2
    exact ⟨idn hI1 hI2, hv.trans hv2.symm⟩
  rw [m2, if_neg m3] at hv hI1
  rw [m2, if_neg m4] at hv2 hI2
  rw [qcl (by omega), qcl (by omega)] at hI1 hI2
  refine ⟨g.mk2 hK hV ?_, hv.trans hv2.symm⟩
  have r1 : ∀ a, a ≠ 8 → I1 a = I a := fun a hb => by rw [hI1, qup_row hb, qup_row hb]
  have r2 : ∀ a, a ≠ 122 → I2 a = I1 a := fun a hb => by rw [hI2, qup_row hb, qup_row hb]
  refine tie.live (fun a ha => r1 a (by omega)) (fun a ha => rfl) (by rw [r1 0 (by omega)]) cf (r2 139 (by omega)) (by rw [r2 114 (by omega)]) ⟨by rw [r2 114 (by omega)], r2 138 (by omega)⟩ ⟨by rw [r2 114 (by omega)], by rw [r2 114 (by omega)], r2 123 (by omega)⟩ (fun u hu => by rw [r1 _ (by unfold qm; omega)]) (fun a a1 a2 => ⟨r2 a (by omega), by rw [j2]⟩) rf ?_
  have base : xT I1 6 (kp I2) := by
    refine tie.1.list (fun j hj => by rw [r1 6 (by omega)]) (fun a a1 a2 => r1 a a2) (fun j hj h1 h2 => ?_) ?_ (fun l i hl6 e hi => ?_)
    · obtain ⟨b1, b2⟩ := kpa_nls j hj.lt h1 h2
      rw [hI2, kp_up0 (fun w => b1 w.1), kp_up0 (fun w => b1 w.1), kp_far cf hj.lt]
    · show I2 114 8 = I1 6 3
      rw [r2 114 (by omega), hl1, r1 6 (by omega), hl]
    · rw [r1 6 (by omega), hl] at e
      have ell : l' = l := (nI_eq (by omega) (by omega)).mp e
      rw [kp_122 (by omega), hI2, hI1]
      by_cases w : i = m
      · subst w; rw [qup_at, qup_at]
      · rw [qup_j w, qup_j w]
        by_cases w2 : i = k
        · subst w2; rw [qup_at, qup_at]
        · rw [qup_j w2, qup_j w2, ← hI1, e122]; exact ls i (by omega)
  exact base.rows (fun a a1 a2 => (rf a (by omega)).1) (fun j _ => rfl)
theorem kpa_mo2 : ∀ j, j < 124 → ((36 ≤ j ∧ j < 42) ∨ (118 ≤ j ∧ j < 123)) → ((kpa j).1 < 115 ∨ 121 < (kpa j).1) ∧ ¬ ((kpa j).1 = 114 ∧ (kpa j).2 = 0) := by decide +kernel
theorem xINV.mourner {S S1 S2 : qSh} {I I1 I2 : qI} {J J1 J2 : qJ} {T T2 : qI → Prop} {v v2 : Option Value} {kd vv gg : Int32} {c : Nat} (g : xINV S I J) (c6 : c ≤ 6) (hc : I 6 1 = nI c) (hI1 : I1 = cMournerI I c kd vv gg) (hJ1 : J1 = J) (hK : KQ0 S I J T v S1 I1 J1) (hI2 : I2 = gi_Md_mourner I1 J1 kd vv gg) (j2 : J2 = J1) (hV : RQ0 S1 I1 J1 T2 v2 S2 I2 J2) : xINV S2 I2 J2 := by
  have cf := hK.2.2.1
  have rf := hV.2.2.1
  have tie := g.2.2.2
  have hc1 : I1 114 0 = nI c := by rw [(cf 114 (by omega) (by omega)).1]; exact tie.1.1.trans hc
  subst hJ1
  unfold cMournerI at hI1
  unfold gi_Md_mourner at hI2
  rw [hc1] at hI2
  have idn : I1 = I → I2 = I1 → xINV S2 I2 J2 := fun h1 h2 => g.mk2 hK hV (tie.idn h1 rfl h2 j2)
  by_cases q0 : qwithin kd 0 6 = 0
  · rw [if_pos q0] at hI1 hI2; exact idn hI1 hI2
  rw [if_neg q0] at hI1 hI2
  by_cases q1 : qwithin vv 0 9 = 0
  · rw [if_pos q1] at hI1 hI2; exact idn hI1 hI2
  rw [if_neg q1] at hI1 hI2
  by_cases q2 : qwithin gg 0 99 = 0
  · rw [if_pos q2] at hI1 hI2; exact idn hI1 hI2
  rw [if_neg q2] at hI1 hI2
  by_cases q3 : c < 6
  · have n3 : ¬ nI c = 6 := fun w => by
      have := (nI_eq (by omega) (by omega)).mp (show nI c = nI 6 from w)
      omega
    rw [if_pos q3] at hI1
    rw [if_neg n3, q1k, qcl (n := c) (by omega)] at hI2
    have z0 : 4 * nI c + 0 = nI (4 * c + 0) := nI_4m c 0
    have z1 : 4 * nI c + 1 = nI (4 * c + 1) := nI_4m c 1
    have z2 : 4 * nI c + 2 = nI (4 * c + 2) := nI_4m c 2
    have z3 : 4 * nI c + 3 = nI (4 * c + 3) := nI_4m c 3
    rw [z0, z1, z2, z3, qcl (by omega), qcl (by omega), qcl (by omega), qcl (by omega)] at hI2
    have r1 : ∀ a, a ≠ 6 → a ≠ qm 6 c → a ≠ qm 6 c + 1 → I1 a = I a := fun a h1 h2 h3 => by
      rw [hI1, qup_row h1]; unfold qcomes
      rw [qfil_o h3, qup_row h2, qup_row h2, qup_row h2, qup_row h2, qup_row h2, qup_row h2]
    have f6 : ∀ j, j ≠ 1 → I1 6 j = I 6 j := fun j hj => by
      rw [hI1, qup_j hj]; unfold qcomes
      rw [qfil_o (by unfold qm; omega), qup_row (by unfold qm; omega), qup_row (by unfold qm; omega), qup_row (by unfold qm; omega), qup_row (by unfold qm; omega), qup_row (by unfold qm; omega), qup_row (by unfold qm; omega)]
    have k1 : I1 (qm 6 c) 1 = kd := by
      rw [hI1, qup_o (by unfold qm; omega)]; unfold qcomes
      rw [qfil_o (by omega), qup_j (by decide), qup_j (by decide), qup_j (by decide), qup_j (by decide), qup_j (by decide), qup_at]
    have kv : I1 (qm 6 c) 2 = vv := by
      rw [hI1, qup_o (by unfold qm; omega)]; unfold qcomes
      rw [qfil_o (by omega), qup_j (by decide), qup_j (by decide), qup_j (by decide), qup_j (by decide), qup_at]
    have kn : ∀ u, u < 6 → I1 (qm 6 u) 0 = I (qm 6 u) 0 := fun u hu => by
      rw [hI1, qup_o (by unfold qm; omega)]; unfold qcomes
      rw [qfil_o (by unfold qm; omega), qup_j (by decide), qup_j (by decide), qup_j (by decide), qup_j (by decide), qup_j (by decide), qup_j (by decide)]
    have k2 : ∀ r, r < 4 → I1 (qm 6 c + 1) r = 0 := fun r hr => by
      rw [hI1, qup_o (by unfold qm; omega)]; unfold qcomes qfil
      rw [if_pos ⟨rfl, hr⟩]
    have e : ∀ a, a ≠ 114 → (a < 115 ∨ 121 < a) → I2 a = I1 a := fun a a1 a2 => by
      rw [hI2, qup_row a1, qup_row (by omega), qup_row (by omega), qup_row (by omega), qup_row (by omega), qup_row (by omega), qup_row (by omega), qup_row (by omega), qup_row (by omega), qup_row (by omega), qup_row (by omega)]
    have f : ∀ j, j ≠ 0 → I2 114 j = I1 114 j := fun j hj => by
      rw [hI2, qup_j hj, qup_o (by decide), qup_o (by decide), qup_o (by decide), qup_o (by decide), qup_o (by decide), qup_o (by decide), qup_o (by decide), qup_o (by decide), qup_o (by decide), qup_o (by decide)]
    have f0 : I2 114 0 = nI (c + 1) := by rw [hI2, qup_at]
    have e115 : ∀ p, I2 115 p = if p = c then kd else I1 115 p := fun p => by
      rw [hI2, qup_o (by decide), qup_o (by decide), qup_o (by decide), qup_o (by decide), qup_o (by decide), qup_o (by decide), qup_o (by decide), qup_o (by decide), qup_o (by decide), qup_o (by decide)]
      by_cases w : p = c
      · subst w; rw [qup_at, if_pos rfl]
      · rw [qup_j w, if_neg w]
    have e116 : ∀ p, I2 116 p = if p = c then vv else I1 116 p := fun p => by
      rw [hI2, qup_o (by decide), qup_o (by decide), qup_o (by decide), qup_o (by decide), qup_o (by decide), qup_o (by decide), qup_o (by decide), qup_o (by decide), qup_o (by decide)]
      by_cases w : p = c
      · subst w; rw [qup_at, if_pos rfl]
      · rw [qup_j w, if_neg w, qup_o (by decide)]
    have e121 : ∀ p r, r < 4 → I2 121 (4 * p + r) = if p = c then 0 else I1 121 (4 * p + r) := fun p r hr => by
      rw [hI2, qup_o (by decide)]
      by_cases w : p = c
      · subst w
        rw [if_pos rfl]
        have : r = 0 ∨ r = 1 ∨ r = 2 ∨ r = 3 := by omega
        rcases this with rfl | rfl | rfl | rfl
        · rw [qup_j (by omega), qup_j (by omega), qup_j (by omega), qup_at]
        · rw [qup_j (by omega), qup_j (by omega), qup_at]
        · rw [qup_j (by omega), qup_at]
        · rw [qup_at]
      · rw [if_neg w, qup_j (by omega), qup_j (by omega), qup_j (by omega), qup_j (by omega), qup_o (by decide), qup_o (by decide), qup_o (by decide), qup_o (by decide), qup_o (by decide), qup_o (by decide)]
    have kk : ∀ j, ((36 ≤ j ∧ j < 42) ∨ (118 ≤ j ∧ j < 123)) → kp I2 j = kp I j := fun j hj => by
      obtain ⟨b1, b2⟩ := kpa_mo2 j (by omega) hj
      rw [← kp_far cf (show j < 124 by omega)]
      unfold kp
      by_cases z : (kpa j).1 = 114
      · rw [z] at b2 ⊢
        exact f _ (fun w => b2 ⟨rfl, w⟩)
      · rw [e _ z b1]
    refine g.mk2 hK hV (tie.live (fun a ha => r1 a (by omega) (by unfold qm; omega) (by unfold qm; omega)) (fun a ha => rfl) (by rw [r1 0 (by omega) (by unfold qm; omega) (by unfold qm; omega)]) cf (e 139 (by omega) (by omega)) (f 39 (by omega)) ⟨f 37 (by omega), e 138 (by omega) (by omega)⟩ ⟨f 17 (by omega), f 11 (by omega), e 123 (by omega) (by omega)⟩ kn (fun a a1 a2 => ⟨e a (by omega) (by omega), by rw [j2]⟩) rf ?_)
    have base : xT I1 6 (kp I2) := by
      obtain ⟨a1, a2, a3, a4, a5, a6, a7, a8⟩ := tie.1
      have b61 : I1 6 1 = nI (c + 1) := by rw [hI1, qup_at]
      refine ⟨f0.trans b61.symm, ?_, ?_, ?_, ?_, ?_, fun c' p hc' e' hp => ?_, fun l i hl6 e' hi => ?_⟩
      · rw [kk _ (by omega), f6 3 (by decide)]; exact a2
      · rw [kk _ (by omega), f6 4 (by decide)]; exact a3
      · rw [kk _ (by omega), r1 (6 + 3) (by omega) (by unfold qm; omega) (by unfold qm; omega)]; exact a4
      · rw [kk _ (by omega), r1 (6 + 7) (by omega) (by unfold qm; omega) (by unfold qm; omega)]; exact a5
      · rw [kk _ (by omega), r1 (6 + 11) (by omega) (by unfold qm; omega) (by unfold qm; omega)]; exact a6
      · have ec : c' = c + 1 := (nI_eq (by omega) (by omega)).mp (e'.symm.trans b61)
        have x1 : kp I2 p = I2 115 p := by have := kp_115 (I := I2) (k := p) (by omega); rwa [Nat.zero_add] at this
        have x3 : kp I2 (6 + p) = I2 116 p := kp_116 (by omega)
        rw [x1, e115, x3, e116]
        by_cases w : p = c
        · subst w
          refine ⟨by rw [if_pos rfl, k1], by rw [if_pos rfl, kv], fun r hr => ?_⟩
          rw [kp_121 (by omega), e121 _ _ hr, if_pos rfl, k2 r hr]
        · obtain ⟨b1, b0, b2⟩ := a7 c p c6 hc (by omega)
          have x2 : kp I p = I 115 p := by have := kp_115 (I := I) (k := p) (by omega); rwa [Nat.zero_add] at this
          rw [kp_116 (by omega)] at b0
          rw [if_neg w, if_neg w, r1 (qm 6 p) (by unfold qm; omega) (by unfold qm; omega) (by unfold qm; omega), r1 (qm 6 p + 1) (by unfold qm; omega) (by unfold qm; omega) (by unfold qm; omega)]
          refine ⟨by rw [(cf 115 (by omega) (by omega)).1, ← x2]; exact b1, by rw [(cf 116 (by omega) (by omega)).1]; exact b0, fun r hr => ?_⟩
          have := b2 r hr
          rw [kp_121 (by omega)] at this
          rw [kp_121 (by omega), e121 _ _ hr, if_neg w, (cf 121 (by omega) (by omega)).1]; exact this
      · rw [f6 3 (by decide)] at e'
        rw [kk _ (by omega), r1 (6 + 2) (by omega) (by unfold qm; omega) (by unfold qm; omega)]; exact a8 l i hl6 e' hi
    exact base.rows (fun a a1 a2 => (rf a (by omega)).1) (fun j _ => rfl)
  · have n3 : nI c = 6 := by rw [show c = 6 by omega]; rfl
    rw [if_neg q3] at hI1
    rw [if_pos n3] at hI2
    exact idn hI1 hI2
theorem qgoP_1 {I : qI} {o i p a : Nat} {hv most : Int32} : qgoP I o i hv most p a 1 = I a 1 := by
  unfold qgoP; repeat' split
  · rw [qup_j (by decide)]
  · rw [qup_j (by decide), qup_j (by decide)]
  · rfl
theorem qgoPs_1 {I : qI} {o i a : Nat} {hv most : Int32} : ∀ n, qgoPs I o i hv most n a 1 = I a 1 := by
  intro n
  induction n with
  | zero => rfl
  | succ n ih => rw [qgoPs, qgoP_1, ih]
theorem qgoN_1 {I : qI} {o i a : Nat} {most : Int32} : ∀ n, qgoN I o i most n a 1 = I a 1 := by
  intro n
  induction n with
  | zero => rfl
  | succ n ih =>
    rw [qgoN]; unfold qgo1
    rw [qup_j (by decide), qgoPs_1, ih]
theorem qgoP_j {I : qI} {o i p a j : Nat} {hv most : Int32} (h4 : j ≠ 4) (h5 : j ≠ 5) (h6 : j ≠ 6) : qgoP I o i hv most p a j = I a j := by
  unfold qgoP; repeat' split
  · rw [qup_j h6]
  · rw [qup_j h4, qup_j h5]
  · rfl
theorem qgoPs_j {I : qI} {o i a j : Nat} {hv most : Int32} (h4 : j ≠ 4) (h5 : j ≠ 5) (h6 : j ≠ 6) : ∀ n, qgoPs I o i hv most n a j = I a j := by
  intro n
  induction n with
  | zero => rfl
  | succ n ih => rw [qgoPs, qgoP_j h4 h5 h6, ih]
theorem qgoN_j {I : qI} {o i a j : Nat} {most : Int32} (h4 : j ≠ 4) (h5 : j ≠ 5) (h6 : j ≠ 6) : ∀ n, qgoN I o i most n a j = I a j := by
  intro n
  induction n with
  | zero => rfl
  | succ n ih =>
    rw [qgoN]; unfold qgo1
    rw [qup_j h4, qgoPs_j h4 h5 h6, ih]
theorem qgoN_out {I : qI} {o i a D : Nat} {most : Int32} (hok : qMgOK I o D) (h0 : a ≠ o) (hm : ∀ p, p < 6 → a ≠ qm o p) : ∀ n, qgoN I o i most n a = I a := by
  intro n
  induction n with
  | zero => rfl
  | succ n ih =>
    obtain ⟨⟨c, hc6, hc⟩, -⟩ := hok.goN (i := i) (most := most) n
    rw [qgoN]; unfold qgo1
    rw [qup_row h0, hc, qcl (by omega), qgoPs_row c (fun p hp => hm p (by omega)), ih]
theorem kpa_ps3 : ∀ j, j < 124 → (j < 12 ∨ (36 ≤ j ∧ j < 66) ∨ j = 117 ∨ j = 118 ∨ (120 ≤ j ∧ j < 123)) → ((kpa j).1 < 118 ∨ 120 < (kpa j).1) ∧ (kpa j).1 ≠ 130 ∧ ¬ ((kpa j).1 = 114 ∧ (kpa j).2 = 10) := by decide +kernel
theorem xINV.pass {S S1 S2 : qSh} {I I1 I2 : qI} {J J1 J2 : qJ} {T T2 : qI → Prop} {v v2 : Option Value} {n : Int32} (g : xINV S I J) (pK : ∃ d w, d ≤ 9999 ∧ I 6 4 = nI d ∧ qW1 w ∧ qMgOK I 6 9999 ∧ v = some (.int (ca_pass I d n)) ∧ qEq (w + 4) (ci_pass I w d n) I1 ∧ J1 = J) (hK : KQ0 S I J T v S1 I1 J1) (pR : ∃ d, d ≤ 9999 ∧ I1 114 10 = nI d ∧ J1 = J2 ∧ (if qwithin n 0 60 = 0 then v2 = some (.int (-2)) ∧ I1 = I2 else if 9999 < nI d + n then v2 = some (.int (-3)) ∧ I1 = I2 else v2 = some (.int (nI d + n)) ∧ q130 (mpassN I1 n.toNatClampNeg) I2)) (hV : RQ0 S1 I1 J1 T2 v2 S2 I2 J2) : xINV S2 I2 J2 ∧ v = v2 := by
  have cf := hK.2.2.1
  have rf := hV.2.2.1
  have tie := g.2.2.2
  obtain ⟨d, w, d9, hd, hw, hok, hv, he, rfl⟩ := pK
  obtain ⟨d', d9', hd', j2, hR⟩ := pR
  have hd1 : I1 114 10 = nI d := by rw [(cf 114 (by omega) (by omega)).1]; exact tie.1.2.2.1.trans hd
  have ed : d' = d := (nI_eq (by omega) (by omega)).mp (hd'.symm.trans hd1)
  subst ed
  unfold qW1 at hw
  unfold ca_pass at hv
  unfold ci_pass at he
  have idn : qEq (w + 4) I I1 → I1 = I2 → xINV S2 I2 J2 := fun h1 h2 => by
    refine g.mk2 hK hV (tie.live (fun a ha => h1 a (by omega)) (fun a ha => rfl) (by rw [h1 0 (by omega)]) cf (by rw [h2]) (by rw [h2]) ⟨by rw [h2], by rw [h2]⟩ ⟨by rw [h2], by rw [h2], by rw [h2]⟩ (fun u hu => by rw [h1 _ (by unfold qm; omega)]) (fun a a1 a2 => ⟨by rw [h2], by rw [j2]⟩) rf ?_)
    rw [← h2]
    exact tie.1.rows (fun a a1 a2 => h1 a (by omega)) (fun j hj => kp_far cf hj.lt)
  by_cases q0 : qwithin n 0 60 = 0
  · rw [if_pos q0] at hv he hR
    exact ⟨idn he hR.2, hv.trans hR.1.symm⟩
  rw [if_neg q0] at hv he hR
  obtain ⟨g1, g2⟩ := qwithin_y q0
  obtain ⟨k, kk, rfl⟩ := nI_of2 (M := 60) (n := 60) rfl (Int32.not_lt.mpr g1) g2
  by_cases q1 : nI d' + nI k ≤ 9999
  · rw [if_pos q1] at hv he
    rw [if_neg (Int32.not_lt.mpr q1)] at hR
    rw [qcl (n := k) (by omega)] at he hR
    refine ⟨?_, hv.trans hR.1.symm⟩
    have r1 : ∀ a, a ≠ 6 → (∀ p, p < 6 → a ≠ qm 6 p) → a ≠ w + 4 → I1 a = I a := fun a a1 a2 a3 => by rw [he a a3, qgoN_out hok a1 a2]
    have r11 : ∀ a, a ≠ w + 4 → I1 a 1 = I a 1 := fun a a3 => by rw [he a a3, qgoN_1]
    have r12 : ∀ a j, a ≠ w + 4 → j < 4 → I1 a j = I a j := fun a j a3 hj => by rw [he a a3, qgoN_j (by omega) (by omega) (by omega)]
    have r6 : ∀ j, j ≠ 4 → I1 6 j = I 6 j := fun j hj => by rw [he 6 (by omega)]; exact qgoN_o hj k
    have r64 : I1 6 4 = nI (d' + k) := by rw [he 6 (by omega)]; exact qgoN_day hd k
    have h2 := hR.2
    have s : ∀ a, a ≠ 118 → a ≠ 119 → a ≠ 120 → a ≠ 114 → a ≠ 130 → I2 a = I1 a := fun a a1 a2 a3 a4 a5 => by rw [h2 a a5]; exact mpassN_row a1 a2 a3 a4 k
    have f : ∀ j, j ≠ 10 → I2 114 j = I1 114 j := fun j hj => by rw [h2 114 (by decide)]; exact mpassN_f hj k
    have f10 : I2 114 10 = nI (d' + k) := by rw [h2 114 (by decide)]; exact mpassN_d hd1 k
    have kq : ∀ j, (j < 12 ∨ (36 ≤ j ∧ j < 66) ∨ j = 117 ∨ j = 118 ∨ (120 ≤ j ∧ j < 123)) → kp I2 j = kp I j := fun j hj => by
      obtain ⟨b1, b2, b3⟩ := kpa_ps3 j (by omega) hj
      rw [← kp_far cf (show j < 124 by omega)]
      unfold kp
      by_cases z : (kpa j).1 = 114
      · rw [z] at b3 ⊢
        exact f _ (fun x => b3 ⟨rfl, x⟩)
      · rw [s _ (by omega) (by omega) (by omega) z b2]
    have nq : ∀ a, (a < 21 ∨ 32 < a) → ∀ p, p < 6 → a ≠ qm 6 p := fun a ha p hp => by unfold qm; omega
    refine g.mk2 hK hV (tie.live (fun a ha => r1 a (by omega) (nq a (by omega)) (by omega)) (fun a ha => rfl) (by rw [r1 0 (by omega) (nq 0 (by omega)) (by omega)]) cf (s 139 (by omega) (by omega) (by omega) (by omega) (by omega)) (f 39 (by omega)) ⟨f 37 (by omega), s 138 (by omega) (by omega) (by omega) (by omega) (by omega)⟩ ⟨f 17 (by omega), f 11 (by omega), s 123 (by omega) (by omega) (by omega) (by omega) (by omega)⟩ (fun u hu => r12 _ 0 (by unfold qm; omega) (by omega)) (fun a a1 a2 => ⟨s a (by omega) (by omega) (by omega) (by omega) (by omega), by rw [j2]⟩) rf ?_)
    have base : xT I1 6 (kp I2) := by
      obtain ⟨a1, a2, a3, a4, a5, a6, a7, a8⟩ := tie.1
      refine ⟨?_, ?_, f10.trans r64.symm, ?_, ?_, ?_, fun c p hc e hp => ?_, fun l i hl6 e hi => ?_⟩
      · rw [kq _ (by omega), r6 1 (by decide)]; exact a1
      · rw [kq _ (by omega), r6 3 (by decide)]; exact a2
      · rw [kq _ (by omega), r1 (6 + 3) (by omega) (nq _ (by omega)) (by omega)]; exact a4
      · rw [kq _ (by omega), r1 (6 + 7) (by omega) (nq _ (by omega)) (by omega)]; exact a5
      · rw [kq _ (by omega), r1 (6 + 11) (by omega) (nq _ (by omega)) (by omega)]; exact a6
      · rw [r6 1 (by decide)] at e
        obtain ⟨b1, b0, b2⟩ := a7 c p hc e hp
        refine ⟨by rw [kq _ (by omega), r11 (qm 6 p) (by unfold qm; omega)]; exact b1, by rw [kq _ (by omega), r12 (qm 6 p) 2 (by unfold qm; omega) (by omega)]; exact b0, fun r hr => ?_⟩
        rw [kq _ (by omega), r1 (qm 6 p + 1) (by unfold qm; omega) (fun p' _ => by unfold qm; omega) (by unfold qm; omega)]; exact b2 r hr
      · rw [r6 3 (by decide)] at e
        rw [kq _ (by omega), r1 (6 + 2) (by omega) (nq _ (by omega)) (by omega)]; exact a8 l i hl6 e hi
    exact base.rows (fun a a1 a2 => (rf a (by omega)).1) (fun j _ => rfl)
  · rw [if_neg q1] at hv he
    rw [if_pos (Int32.not_le.mp q1)] at hR
    exact ⟨idn he hR.2, hv.trans hR.1.symm⟩
