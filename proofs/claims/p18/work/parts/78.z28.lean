/-! class and reference side by side: the list, a mourner, days -/
theorem qplace_cg {f g : Nat → Int32} {x : Int32} {n : Nat} (h : ∀ i, i < n → f i = g i) : ∀ j, j ≤ n → qplace f x n j = qplace g x n j := by
  intro j
  induction j with
  | zero => intro _; rfl
  | succ j ih => intro hj; rw [qplace, qplace, ih (by omega), h _ (by omega)]
theorem rDat.fr6 {I : qI} {c l : Nat} (h : rDat I) (hc0 : I 114 0 = nI c) (c60 : c ≤ 6) (hl0 : I 114 8 = nI l) (l60 : l ≤ 6) : ∀ q, q < c → qplace (I 122) (nI q) l l = -5 → l < 6 := by
  obtain ⟨c', c6, hc, l', l6, hl, ha, hb, h3⟩ := h.lst
  have ec : c' = c := (nI_eq (by omega) (by omega)).mp (hc.symm.trans hc0)
  have el : l' = l := (nI_eq (by omega) (by omega)).mp (hl.symm.trans hl0)
  subst ec; subst el
  intro q hq hp
  have no := qplace_no (f := I 122) (x := nI q) (n := l') l6 l' (Nat.le_refl _) hp
  rcases Nat.lt_or_ge l' 6 with w | w
  · exact w
  · exfalso
    refine qpig 6 (fun i => if i < l' then (I 122 i).toNatClampNeg else q) (fun i hi => ?_) (fun i j hij hj => ?_)
    · split
      · rename_i w2
        obtain ⟨p, p1, p2⟩ := ha i w2
        rw [p2, qcl (by omega)]; omega
      · omega
    · rw [if_pos (show i < l' by omega)]
      obtain ⟨p1, p2, p3⟩ := ha i (by omega)
      split
      · rename_i w2
        obtain ⟨r1, r2, r3⟩ := ha j w2
        rw [p3, r3, qcl (by omega), qcl (by omega)]
        intro z
        refine hb i j hij w2 ?_
        rw [p3, r3, z]
      · rw [p3, qcl (by omega)]
        intro z
        refine no i (by omega) (by omega) ?_
        rw [p3, z]
theorem xT.list {I I' : qI} {f f' : Nat → Int32} (h : xT I 6 f) (f6 : ∀ j, j ≠ 3 → I' 6 j = I 6 j) (k : ∀ a, a ≠ 6 → a ≠ 8 → I' a = I a) (hf : ∀ j, cDj j → (j < 36 ∨ 42 ≤ j) → j ≠ 118 → f' j = f j) (n3 : f' 118 = I' 6 3) (hl : ∀ l i, l ≤ 6 → I' 6 3 = nI l → i < l → f' (36 + i) = I' 8 i) : xT I' 6 f' := by
  obtain ⟨a1, a2, a3, a4, a5, a6, a7, a8⟩ := h
  unfold cDj at hf
  refine ⟨?_, n3, ?_, ?_, ?_, ?_, fun c p hc e hp => ?_, hl⟩
  · rw [hf _ (by omega) (by omega) (by omega), f6 1 (by omega)]; exact a1
  · rw [hf _ (by omega) (by omega) (by omega), f6 4 (by omega)]; exact a3
  · rw [hf _ (by omega) (by omega) (by omega), k (6 + 3) (by omega) (by omega)]; exact a4
  · rw [hf _ (by omega) (by omega) (by omega), k (6 + 7) (by omega) (by omega)]; exact a5
  · rw [hf _ (by omega) (by omega) (by omega), k (6 + 11) (by omega) (by omega)]; exact a6
  · rw [f6 1 (by omega)] at e
    obtain ⟨b1, b0, b2⟩ := a7 c p hc e hp
    refine ⟨by rw [hf _ (by omega) (by omega) (by omega), k (qm 6 p) (by unfold qm; omega) (by unfold qm; omega)]; exact b1, by rw [hf _ (by omega) (by omega) (by omega), k (qm 6 p) (by unfold qm; omega) (by unfold qm; omega)]; exact b0, fun r hr => ?_⟩
    rw [hf _ (by omega) (by omega) (by omega), k (qm 6 p + 1) (by unfold qm; omega) (by unfold qm; omega)]; exact b2 r hr
theorem kpa_nls : ∀ j, j < 124 → (j < 36 ∨ 42 ≤ j) → j ≠ 118 → (kpa j).1 ≠ 122 ∧ ¬ ((kpa j).1 = 114 ∧ (kpa j).2 = 8) := by decide +kernel
theorem xINV.list {S S1 S2 : qSh} {I I1 I2 : qI} {J J1 J2 : qJ} {T T2 : qI → Prop} {v v2 : Option Value} {p : Int32} (g : xINV S I J) (pK : ∃ c l, c ≤ 6 ∧ I 6 1 = nI c ∧ l ≤ 6 ∧ I 6 3 = nI l ∧ v = some (.int (ca_list I c l p)) ∧ I1 = ci_list I c l p ∧ J1 = J) (hK : KQ0 S I J T v S1 I1 J1) (pR : ∃ l, l ≤ 6 ∧ I1 114 8 = nI l ∧ v2 = some (.int (ga_Md_list I1 J1 l p)) ∧ I2 = gi_Md_list I1 J1 l p ∧ J2 = gj_Md_list I1 J1 l p) (hV : RQ0 S1 I1 J1 T2 v2 S2 I2 J2) : xINV S2 I2 J2 ∧ v = v2 := by
  have cf := hK.2.2.1
  have rf := hV.2.2.1
  have tie := g.2.2.2
  obtain ⟨c, l, c6, hc, l6, hl, hv, hI1, rfl⟩ := pK
  obtain ⟨l', l6', hl', hv2, hI2, hJ2⟩ := pR
  have j2 : J2 = J1 := by rw [hJ2]; unfold gj_Md_list; (repeat' split) <;> rfl
  have hc0 : I 114 0 = nI c := tie.1.1.trans hc
  have hl0 : I 114 8 = nI l := tie.1.2.1.trans hl
  have hc1 : I1 114 0 = nI c := by rw [(cf 114 (by omega) (by omega)).1]; exact hc0
  have hl1 : I1 114 8 = nI l := by rw [(cf 114 (by omega) (by omega)).1]; exact hl0
  have el : l' = l := (nI_eq (by omega) (by omega)).mp (hl'.symm.trans hl1)
  subst el
  have e122 : I1 122 = I 122 := (cf 122 (by omega) (by omega)).1
  have ls : ∀ i, i < l' → I 122 i = I 8 i := fun i hi => by rw [← kp_122 (I := I) (k := i) (by omega)]; exact tie.1.2.2.2.2.2.2.2 l' i l6 hl hi
  have qp : ∀ y, qplace (I 122) y l' l' = qplace (I 8) y l' l' := fun y => qplace_cg ls l' (Nat.le_refl _)
  have fr := g.2.2.1.fr6 hc0 c6 hl0 l6
  unfold ca_list at hv
  unfold ci_list at hI1
  unfold ga_Md_list at hv2
  unfold gi_Md_list at hI2
  rw [hc1, hl1, e122, qp] at hv2 hI2
  have idn : I1 = I → I2 = I1 → xINV S2 I2 J2 := fun h1 h2 => g.mk2 hK hV (tie.idn h1 rfl h2 j2)
  by_cases q0 : p = -1
  · rw [if_pos q0] at hv hI1 hv2 hI2
    refine ⟨g.mk2 hK hV ?_, hv.trans hv2.symm⟩
    have r1 : ∀ a, a ≠ 6 → I1 a = I a := fun a ha => by rw [hI1, qup_row ha]
    have r2 : ∀ a, a ≠ 114 → I2 a = I1 a := fun a ha => by rw [hI2, qup_row ha]
    refine tie.live (fun a ha => r1 a (by omega)) (fun a ha => rfl) (by rw [r1 0 (by omega)]) cf (r2 139 (by omega)) (by rw [hI2, qup_j (by decide)]) ⟨by rw [hI2, qup_j (by decide)], r2 138 (by omega)⟩ ⟨by rw [hI2, qup_j (by decide)], by rw [hI2, qup_j (by decide)], r2 123 (by omega)⟩ (fun u hu => by rw [r1 _ (by unfold qm; omega)]) (fun a a1 a2 => ⟨r2 a (by omega), by rw [j2]⟩) rf ?_
    have base : xT I1 6 (kp I2) := by
      refine tie.1.list (fun j hj => by rw [hI1, qup_j hj]) (fun a a1 a2 => r1 a a1) (fun j hj h1 h2 => ?_) ?_ (fun l i hl6 e hi => ?_)
      · obtain ⟨b1, b2⟩ := kpa_nls j hj.lt h1 h2
        rw [hI2, kp_up0 b2, kp_far cf hj.lt]
      · show I2 114 8 = I1 6 3
        rw [hI2, qup_at, hI1, qup_at]
      · rw [hI1, qup_at] at e
        have : 0 = l := (nI_eq (by omega) (by omega)).mp (show nI 0 = nI l from e)
        omega
    exact base.rows (fun a a1 a2 => (rf a (by omega)).1) (fun j _ => rfl)
  rw [if_neg q0] at hv hI1 hv2 hI2
  by_cases q1 : qwithin p 0 (nI c - 1) = 0
  · rw [if_pos q1] at hv hI1 hv2 hI2
    exact ⟨idn hI1 hI2, hv.trans hv2.symm⟩
  rw [if_neg q1] at hv hI1 hv2 hI2
  obtain ⟨m, m1, rfl⟩ := qisM_y (show c < 2 ^ 31 by omega) q1
  by_cases q2 : qplace (I 8) (nI m) l' l' = -5
  · have l5 := fr m m1 (by rw [qp]; exact q2)
    have n2 : ¬ (0 : Int32) ≤ qplace (I 8) (nI m) l' l' := by rw [q2]; decide
    rw [if_neg n2, if_pos l5] at hv hI1
    rw [if_pos q2, q1k] at hv2
    rw [if_pos q2, q1k, qcl (by omega)] at hI2
    refine ⟨g.mk2 hK hV ?_, hv.trans hv2.symm⟩
    have r1 : ∀ a, a ≠ 6 → a ≠ 8 → I1 a = I a := fun a ha hb => by rw [hI1, qup_row ha, qup_row hb]
    have r2 : ∀ a, a ≠ 114 → a ≠ 122 → I2 a = I1 a := fun a ha hb => by rw [hI2, qup_row hb, qup_row ha]
    refine tie.live (fun a ha => r1 a (by omega) (by omega)) (fun a ha => rfl) (by rw [r1 0 (by omega) (by omega)]) cf (r2 139 (by omega) (by omega)) (by rw [hI2, qup_o (by decide), qup_j (by decide)]) ⟨by rw [hI2, qup_o (by decide), qup_j (by decide)], r2 138 (by omega) (by omega)⟩ ⟨by rw [hI2, qup_o (by decide), qup_j (by decide)], by rw [hI2, qup_o (by decide), qup_j (by decide)], r2 123 (by omega) (by omega)⟩ (fun u hu => by rw [r1 _ (by unfold qm; omega) (by unfold qm; omega)]) (fun a a1 a2 => ⟨r2 a (by omega) (by omega), by rw [j2]⟩) rf ?_
    have base : xT I1 6 (kp I2) := by
      refine tie.1.list (fun j hj => by rw [hI1, qup_j hj, qup_o (by decide)]) r1 (fun j hj h1 h2 => ?_) ?_ (fun l i hl6 e hi => ?_)
      · obtain ⟨b1, b2⟩ := kpa_nls j hj.lt h1 h2
        rw [hI2, kp_up0 (fun w => b1 w.1), kp_up0 b2, kp_far cf hj.lt]
      · show I2 114 8 = I1 6 3
        rw [hI2, qup_o (by decide), qup_at, hI1, qup_at]
      · rw [hI1, qup_at] at e
        have ell : l' + 1 = l := (nI_eq (by omega) (by omega)).mp e
        rw [kp_122 (by omega)]
        by_cases w : i = l'
        · subst w
          rw [hI2, qup_at, hI1, qup_o (by decide), qup_at]
        · have x1 : I2 122 i = I 122 i := by rw [hI2, qup_j w, qup_o (by decide), e122]
          have x2 : I1 8 i = I 8 i := by rw [hI1, qup_o (by decide), qup_j w]
          rw [x1, x2]; exact ls i (by omega)
    exact base.rows (fun a a1 a2 => (rf a (by omega)).1) (fun j _ => rfl)
  · obtain ⟨k, k1, k2, -⟩ := (qplace_in (f := I 8) (x := nI m) (n := l') l' (Nat.le_refl _)).resolve_left q2
    have p2 : (0 : Int32) ≤ qplace (I 8) (nI m) l' l' := by rw [k2]; exact (nI_leI (a := 0) (by omega) (by omega)).mpr (Nat.zero_le _)
    rw [if_pos p2] at hv hI1
    rw [if_neg q2] at hv2 hI2
    exact ⟨idn hI1 hI2, hv.trans hv2.symm⟩
