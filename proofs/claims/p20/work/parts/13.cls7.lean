/-! by a plan, as seen, becoming another -/
/-- the rows of the plan, one by one -/
def qplan1 (I : qI) (o i : Nat) (r : Nat) : qI :=
  if I (o + 8) r = 0 then qgoN I o i 2147483647 1
  else if qwithin (I (o + 9) r) 0 (I o 1 - 1) = 0 then I
  else if I (o + 8) r = 3 then qup I (qm o (I (o + 9) r).toNatClampNeg) 3 (qmin 99 (I (qm o (I (o + 9) r).toNatClampNeg) 3 + 10))
  else qup I (qm o (I (o + 9) r).toNatClampNeg) 6 (if I (o + 8) r = 1 then 1 else 0)
def qplanN (I : qI) (o i : Nat) : Nat → qI
  | 0 => I
  | r + 1 => qplan1 (qplanN I o i r) o i r
def qseenN (I : qI) (o i m : Nat) (z : Nat) : Nat → Int32
  | 0 => 1
  | j + 1 => if I (o + 4) (z - (j + 1)) = I m 0 ∧ ¬ qpainAt I o i m (I (o + 6) (z - (j + 1))) = I (o + 5) (z - (j + 1)) then 0 else qseenN I o i m z j
theorem qwithin_ix {x : Int32} {c : Nat} (hc : c ≤ 6) (h : ¬ qwithin x 0 (nI c - 1) = 0) : ∃ j, j < c ∧ x = nI j := by
  obtain ⟨h1, h2⟩ := qwithin_y h
  have h0 : ¬ x < 0 := Int32.not_lt.mpr h1
  obtain ⟨j, hj, rfl⟩ := nI_of h0
  refine ⟨j, ?_, rfl⟩
  cases c with
  | zero =>
    have := Int32.le_trans h1 h2
    exact absurd this (by decide)
  | succ c =>
    rw [nI_pred] at h2
    have := (nI_leI hj (by omega)).mp h2
    omega
theorem qMgOK.rows {I I' : qI} {o D : Nat} (h : qMgOK I o D) (hr : ∀ a, o ≤ a → a < o + 15 → I' a = I a) (hb : ∀ p, p < 6 → qbool (I' (qm o p) 6)) : qMgOK I' o D := by
  obtain ⟨⟨c, hc6, hc⟩, ⟨l, hl6, hl⟩, ⟨d, hd6, hd⟩, ⟨z1, h1, e1⟩, ⟨z2, h2, e2⟩, ⟨z3, h3, e3⟩, -, hs⟩ := h
  refine ⟨⟨c, hc6, ?_⟩, ⟨l, hl6, ?_⟩, ⟨d, hd6, ?_⟩, ⟨z1, h1, ?_⟩, ⟨z2, h2, ?_⟩, ⟨z3, h3, ?_⟩, hb, fun r hr' => ?_⟩
  · rw [hr _ (by omega) (by omega)]; exact hc
  · rw [hr _ (by omega) (by omega)]; exact hl
  · rw [hr _ (by omega) (by omega)]; exact hd
  · rw [hr _ (by omega) (by omega)]; exact e1
  · rw [hr _ (by omega) (by omega)]; exact e2
  · rw [hr _ (by omega) (by omega)]; exact e3
  · rw [hr _ (by omega) (by omega)]; exact hs r hr'
theorem qMgOK.eq {I I' : qI} {o i D : Nat} (h : qMgOK I o D) (hap : qApart o i) (he : qEq (i + 4) I I') : qMgOK I' o D := by
  refine h.rows (fun a h1 h2 => he a (by rcases hap with q | q <;> omega)) (fun p hp => ?_)
  have h1 := qm_lo (o := o) (p := p); have h2 := qm_hi (o := o) hp
  rw [he _ (by rcases hap with q | q <;> omega)]
  exact h.2.2.2.2.2.2.1 p hp
theorem qMgOK.mono {I : qI} {o D D' : Nat} (h : qMgOK I o D) (hD : D ≤ D') : qMgOK I o D' := by
  obtain ⟨a, b, ⟨d, h1, h2⟩, r⟩ := h
  exact ⟨a, b, ⟨d, by omega, h2⟩, r⟩
theorem qMgOK.plan1 {I : qI} {o i D r : Nat} (h : qMgOK I o D) : qMgOK (qplan1 I o i r) o (D + 1) := by
  unfold qplan1
  obtain ⟨c, hc6, hc⟩ := h.1
  by_cases h1 : I (o + 8) r = 0
  · rw [if_pos h1]; exact h.goN 1
  · rw [if_neg h1]
    by_cases h2 : qwithin (I (o + 9) r) 0 (I o 1 - 1) = 0
    · rw [if_pos h2]; exact h.mono (by omega)
    · rw [if_neg h2]
      rw [hc] at h2
      obtain ⟨j, hj, e⟩ := qwithin_ix hc6 h2
      rw [e, qcl (by omega)]
      have row : ∀ (k : Nat) (x : Int32) (a : Nat), o ≤ a → a < o + 15 → qup I (qm o j) k x a = I a := fun k x a ha1 ha => qup_row (by have := qm_lo (o := o) (p := j); omega)
      split
      · exact (h.rows (row _ _) (fun p hp => by rw [qup_j (by decide)]; exact h.2.2.2.2.2.2.1 p hp)).mono (by omega)
      · refine (h.rows (row _ _) (fun p hp => ?_)).mono (by omega)
        unfold qup
        split
        · exact qbit_b
        · exact h.2.2.2.2.2.2.1 p hp
theorem qMgOK.planN {I : qI} {o i D : Nat} (h : qMgOK I o D) : ∀ n, qMgOK (qplanN I o i n) o (D + n) := by
  intro n
  induction n with
  | zero => exact h
  | succ n ih => exact ih.plan1
theorem qplan1_row {I : qI} {o i D r a : Nat} (h : qMgOK I o D) (ha : a < o ∨ o + 26 < a) : qplan1 I o i r a = I a := by
  unfold qplan1
  obtain ⟨c, hc6, hc⟩ := h.1
  by_cases h1 : I (o + 8) r = 0
  · rw [if_pos h1]; exact qgoN_row h ha 1
  · rw [if_neg h1]
    by_cases h2 : qwithin (I (o + 9) r) 0 (I o 1 - 1) = 0
    · rw [if_pos h2]
    · rw [if_neg h2]
      rw [hc] at h2
      obtain ⟨j, hj, e⟩ := qwithin_ix hc6 h2
      rw [e, qcl (by omega)]
      have h1 := qm_lo (o := o) (p := j); have h2 := qm_hi (o := o) (p := j) (by omega)
      split <;> rw [qup_row (by omega)]
theorem qplanN_row {I : qI} {o i D a : Nat} (h : qMgOK I o D) (ha : a < o ∨ o + 26 < a) : ∀ n, qplanN I o i n a = I a := by
  intro n
  induction n with
  | zero => rfl
  | succ n ih => rw [qplanN, qplan1_row (h.planN n) ha, ih]
theorem qgoPs_eq {I I' : qI} {o i : Nat} {hv most : Int32} (hap : qApart o i) (h : qEq (i + 4) I I') : ∀ n, n ≤ 6 → qEq (i + 4) (qgoPs I o i hv most n) (qgoPs I' o i hv most n) := by
  intro n
  induction n with
  | zero => intro _; exact h
  | succ n ih => intro hn; exact qgoP_eq (by omega) hap (ih (by omega))
theorem qgo1_eq {I I' : qI} {o i c : Nat} {most : Int32} (hc : I o 1 = nI c) (h6 : c ≤ 6) (hap : qApart o i) (h : qEq (i + 4) I I') : qEq (i + 4) (qgo1 I o i most) (qgo1 I' o i most) := by
  have ro : ∀ a, o ≤ a → a ≤ o + 26 → I' a = I a := fun a h1 h2 => h a (by rcases hap with q | q <;> omega)
  have hhv : qhas I' o i = qhas I o i := qhas_eq hc h6 (ro _ (by omega) (by omega)) (ro _ (by omega) (by omega)) (h i (by omega)) (fun p hp => by
    have h1 := qm_lo (o := o) (p := p); have h2 := qm_hi (o := o) hp
    exact ro _ (by omega) (by omega))
  unfold qgo1
  rw [hhv, ro o (by omega) (by omega), hc, qcl (by omega)]
  exact (qgoPs_eq hap h c h6).up
theorem qplan1_eq {I I' : qI} {o i D r : Nat} (hok : qMgOK I o D) (hap : qApart o i) (h : qEq (i + 4) I I') : qEq (i + 4) (qplan1 I o i r) (qplan1 I' o i r) := by
  have ro : ∀ a, o ≤ a → a ≤ o + 26 → I' a = I a := fun a h1 h2 => h a (by rcases hap with q | q <;> omega)
  obtain ⟨c, hc6, hc⟩ := hok.1
  unfold qplan1
  rw [ro (o + 8) (by omega) (by omega), ro (o + 9) (by omega) (by omega), ro o (by omega) (by omega)]
  by_cases h1 : I (o + 8) r = 0
  · rw [if_pos h1, if_pos h1]; exact qgo1_eq hc hc6 hap h
  · rw [if_neg h1, if_neg h1]
    by_cases h2 : qwithin (I (o + 9) r) 0 (I o 1 - 1) = 0
    · rw [if_pos h2, if_pos h2]; exact h
    · rw [if_neg h2, if_neg h2]
      rw [hc] at h2
      obtain ⟨j, hj, e⟩ := qwithin_ix hc6 h2
      rw [e, qcl (by omega)]
      have h1 := qm_lo (o := o) (p := j); have h2 := qm_hi (o := o) (p := j) (by omega)
      rw [ro _ (by omega) (by omega)]
      split <;> exact h.up
section QC7
variable {E : qE} {S : qSh} {I : qI} {J : qJ}
theorem c_Mg_goByPlan {o i D : Nat} (hM : isMg S o i) (hok : qMgOK I o D) (hI : qIsOK I i) (hap : qApart o i) (hD : D < 100000) : qMet E y_Mg_goByPlan b_Mg_goByPlan 5 none 5 0 0 [.ref (qb E + o)] S I J (fun v S' I' J' => v = none ∧ S = S' ∧ qEq (i + 4) (qplanN I o i (I (o + 7) 3).toNatClampNeg) I' ∧ J = J') := by
  have hM0 := hM
  obtain ⟨hT, hA1, hA2, hR0, hR2, hR5, hR6, hR7, hR8, hN1, hN2, hN3, hIs, hRp, hMp⟩ := hM
  obtain ⟨gT, gA1, gA2, gA3, gR0, gR1, gR2⟩ := hN2
  obtain ⟨z, hz10, hz⟩ := hok.2.2.2.2.1
  rw [hz, qcl (by omega)]
  refine qMet.of (L := [some (.ref (qb E + o)), none, none, none, none]) (by decide +kernel) (Nat.le_of_ble_eq_true rfl) rfl ?_
  refine r_iconst (pc := 0) (v := 0) d_Mg_goByPlan_0 rfl ?_
  refine sti_n_5_1 (pc := 1) d_Mg_goByPlan_1 rfl ?_
  have key := qfor (P := fun r => ∀ M : qI, qEq (i + 4) (qplanN I o i r) M → qW E y_Mg_goByPlan b_Mg_goByPlan none 5 0 0 (fun v S' I' J' => v = none ∧ S = S' ∧ qEq (i + 4) (qplanN I o i z) I' ∧ J = J') 0 0 2 [some (.ref (qb E + o)), some (.int (nI r)), none, none, none] [] S M J) z ?_ ?_ 0 (by omega)
  · exact key I qEq.rf
  · intro M hM1
    have hz2 : M (o + 7) 3 = nI z := by
      rw [hM1 _ (by rcases hap with q | q <;> omega)]
      have : ∀ n, qplanN I o i n (o + 7) 3 = nI z := by
        intro n
        induction n with
        | zero => exact hz
        | succ n ih =>
          rw [qplanN, qplan1]
          obtain ⟨c, hc6, hc⟩ := (hok.planN (i := i) n).1
          split
          · rw [qgoN, qgoN, qgo1, hc, qcl (by omega), qup_o (by omega), qgoPs_row c (fun p hp => qm_ne (by omega) (by omega))]; exact ih
          · split
            · exact ih
            · have hne : ∀ j : Nat, o + 7 ≠ qm o j := fun j => by unfold qm; omega
              split <;> rw [qup_o (hne _)] <;> exact ih
      exact this z
    refine ldi_n_5_1 (pc := 2) d_Mg_goByPlan_2 ?_
    refine lda_n_5_0 (pc := 3) d_Mg_goByPlan_3 ?_
    refine g_Mg_30 (pc := 4) rfl d_Mg_goByPlan_4 (by assumption) (by assumption) ?_
    refine g_Mg_109 (pc := 7) rfl d_Mg_goByPlan_7 (by assumption) ?_
    rw [hz2]
    refine r_icmp_ge (pc := 10) (tgt := 116) d_Mg_goByPlan_10 (by decide) (fun c1 => ?_) (fun c1 => ?_)
    · exact r_vret d_Mg_goByPlan_116 rfl (by omega) (by omega) (⟨rfl, rfl, hM1, rfl⟩)
    · exact absurd (nI_le (Nat.le_refl _) (by omega)) c1
  · intro r hr ih M hM1
    have okP := hok.planN (i := i) r
    have hIP : qIsOK (qplanN I o i r) i := hI.of (qplanN_row hok (by rcases hap with q | q <;> omega) r) (qplanN_row hok (by rcases hap with q | q <;> omega) r)
    have hz2 : qplanN I o i r (o + 7) 3 = nI z := by
      have : ∀ n, qplanN I o i n (o + 7) 3 = nI z := by
        intro n
        induction n with
        | zero => exact hz
        | succ n ih =>
          rw [qplanN, qplan1]
          obtain ⟨c, hc6, hc⟩ := (hok.planN (i := i) n).1
          split
          · rw [qgoN, qgoN, qgo1, hc, qcl (by omega), qup_o (by omega), qgoPs_row c (fun p hp => qm_ne (by omega) (by omega))]; exact ih
          · split
            · exact ih
            · have hne : ∀ j : Nat, o + 7 ≠ qm o j := fun j => by unfold qm; omega
              split <;> rw [qup_o (hne _)] <;> exact ih
      exact this r
    have hst := qplan1_eq (r := r) okP hap hM1
    rw [qplanN] at ih
    generalize hP : qplanN I o i r = P at *
    have okM : qMgOK M o (D + r) := okP.eq hap hM1
    have hIM : qIsOK M i := hIP.of (hM1 i (by omega)) (hM1 (i + 3) (by omega))
    have hMz : M (o + 7) 3 = nI z := by rw [hM1 _ (by rcases hap with q | q <;> omega)]; exact hz2
    obtain ⟨c, hc6, hc⟩ := okM.1
    have hin : vp_in (nI r) 10 := vp_in_nI (by omega) (by omega)
    have back : ∀ (N : qI) (L4 : Option Value) (x y : Int32), qEq (i + 4) (qplan1 P o i r) N → qW E y_Mg_goByPlan b_Mg_goByPlan none 5 0 0 (fun v S' I' J' => v = none ∧ S = S' ∧ qEq (i + 4) (qplanN I o i z) I' ∧ J = J') 0 0 110 [some (.ref (qb E + o)), some (.int (nI r)), some (.int x), some (.int y), L4] [] S N J := by
      intro N L4 x y hN
      refine inc_5_1 (pc := 110) (w := 1) d_Mg_goByPlan_110 rfl rfl ?_
      refine r_goto (pc := 113) (tgt := 2) d_Mg_goByPlan_113 (by decide) ?_
      rw [q1]
      exact qW.forget 2 (qW.forget 3 (qW.forget 4 (ih N hN)))
    have hst : qEq (i + 4) (qplan1 P o i r) (if M (o + 8) r = 0 then qgoN M o i 2147483647 1 else if qwithin (M (o + 9) r) 0 (M o 1 - 1) = 0 then M else if M (o + 8) r = 3 then qup M (qm o (M (o + 9) r).toNatClampNeg) 3 (qmin 99 (M (qm o (M (o + 9) r).toNatClampNeg) 3 + 10)) else qup M (qm o (M (o + 9) r).toNatClampNeg) 6 (if M (o + 8) r = 1 then 1 else 0)) := hst
    refine ldi_n_5_1 (pc := 2) d_Mg_goByPlan_2 ?_
    refine lda_n_5_0 (pc := 3) d_Mg_goByPlan_3 ?_
    refine g_Mg_30 (pc := 4) rfl d_Mg_goByPlan_4 (by assumption) (by assumption) ?_
    refine g_Mg_109 (pc := 7) rfl d_Mg_goByPlan_7 (by assumption) ?_
    rw [hMz]
    refine r_icmp_ge (pc := 10) (tgt := 116) d_Mg_goByPlan_10 (by decide) (fun c1 => ?_) (fun c1 => ?_)
    · exact absurd c1 (nI_ge hr (by omega))
    · refine lda_n_5_0 (pc := 13) d_Mg_goByPlan_13 ?_
      refine g_Mg_30 (pc := 14) rfl d_Mg_goByPlan_14 (by assumption) (by assumption) ?_
      refine g_Mg_112 (pc := 17) rfl d_Mg_goByPlan_17 (by assumption) (by assumption) ?_
      refine ldi_n_5_1 (pc := 20) d_Mg_goByPlan_20 ?_
      refine r_iald (pc := 21) d_Mg_goByPlan_21 (by assumption) (hin) ?_
      refine sti_n_5_2 (pc := 22) d_Mg_goByPlan_22 rfl ?_
      refine lda_n_5_0 (pc := 23) d_Mg_goByPlan_23 ?_
      refine g_Mg_30 (pc := 24) rfl d_Mg_goByPlan_24 (by assumption) (by assumption) ?_
      refine g_Mg_115 (pc := 27) rfl d_Mg_goByPlan_27 (by assumption) (by assumption) ?_
      refine ldi_n_5_1 (pc := 30) d_Mg_goByPlan_30 ?_
      refine r_iald (pc := 31) d_Mg_goByPlan_31 (by assumption) (hin) ?_
      refine sti_n_5_3 (pc := 32) d_Mg_goByPlan_32 rfl ?_
      refine ldi_n_5_2 (pc := 33) d_Mg_goByPlan_33 ?_
      rw [qcl (by omega)]
      refine r_if_ne (pc := 34) (tgt := 47) d_Mg_goByPlan_34 (by decide) (fun c2 => ?_) (fun c2 => ?_)
      · rw [if_neg c2] at hst
        refine ldi_n_5_3 (pc := 47) d_Mg_goByPlan_47 ?_
        refine r_iconst (pc := 48) (v := 0) d_Mg_goByPlan_48 rfl ?_
        refine lda_n_5_0 (pc := 49) d_Mg_goByPlan_49 ?_
        refine g_Mg_41 (pc := 50) rfl d_Mg_goByPlan_50 (by assumption) ?_
        refine r_iconst (pc := 53) (v := 1) d_Mg_goByPlan_53 rfl ?_
        refine r_isub (pc := 54) d_Mg_goByPlan_54 ?_
        refine r_callSN (pc := 55) (As := [.int (M (o + 9) r), .int 0, .int (M o 1 - 1)]) k_Mg_123 sw_On_within rfl (by decide) d_Mg_goByPlan_55 (c_On_within _ _ _) rfl (Nat.le_of_ble_eq_true rfl) (by omega) (by omega) (by omega) (fun v S' I' J' hq => ?_)
        obtain ⟨rfl, rfl, rfl, rfl⟩ := hq
        refine r_if_eq (pc := 58) (tgt := 110) d_Mg_goByPlan_58 (by decide) (fun c3 => ?_) (fun c3 => ?_)
        · rw [if_pos c3] at hst
          exact back _ _ _ _ hst
        · rw [if_neg c3] at hst
          have c3' := c3
          rw [hc] at c3'
          obtain ⟨j, hj, ej⟩ := qwithin_ix hc6 c3'
          rw [ej, qcl (by omega)] at hst
          have hin2 : vp_in (M (o + 9) r) 6 := by rw [ej]; exact vp_in_nI (by omega) (by omega)
          have hR : qR S (o + 1) (M (o + 9) r).toNatClampNeg = some (qm o j) := by rw [ej, qcl (by omega)]; exact hRp j (by omega)
          have hT3 := (hMp j (by omega)).1
          change qT S (qm o j) 2 at hT3
          refine lda_n_5_0 (pc := 61) d_Mg_goByPlan_61 ?_
          refine g_Mg_11 (pc := 62) rfl d_Mg_goByPlan_62 (by assumption) (by assumption) ?_
          refine ldi_n_5_3 (pc := 65) d_Mg_goByPlan_65 ?_
          refine r_aald14 (pc := 66) d_Mg_goByPlan_66 (by assumption) (hin2) (by assumption) ?_
          refine sta_5_4 (pc := 67) d_Mg_goByPlan_67 rfl ?_
          refine ldi_n_5_2 (pc := 69) d_Mg_goByPlan_69 ?_
          refine r_iconst (pc := 70) (v := 3) d_Mg_goByPlan_70 rfl ?_
          refine r_icmp_ne (pc := 71) (tgt := 95) d_Mg_goByPlan_71 (by decide) (fun c4 => ?_) (fun c4 => ?_)
          · rw [if_neg (show ¬ M (o + 8) r = 3 from c4)] at hst
            refine lda_5_4 (pc := 95) d_Mg_goByPlan_95 ?_
            refine ldi_n_5_2 (pc := 97) d_Mg_goByPlan_97 ?_
            refine r_iconst (pc := 98) (v := 1) d_Mg_goByPlan_98 rfl ?_
            refine r_icmp_ne (pc := 99) (tgt := 106) d_Mg_goByPlan_99 (by decide) (fun c5 => ?_) (fun c5 => ?_)
            · rw [if_neg c5] at hst
              refine r_iconst (pc := 106) (v := 0) d_Mg_goByPlan_106 rfl ?_
              refine p_Mg_63 (pc := 107) rfl d_Mg_goByPlan_107 (by assumption) (by first | exact Or.inl rfl | exact Or.inr rfl | assumption) ?_
              exact back _ _ _ _ hst
            · rw [if_pos c5] at hst
              refine r_iconst (pc := 102) (v := 1) d_Mg_goByPlan_102 rfl ?_
              refine r_goto (pc := 103) (tgt := 107) d_Mg_goByPlan_103 (by decide) ?_
              refine p_Mg_63 (pc := 107) rfl d_Mg_goByPlan_107 (by assumption) (by first | exact Or.inl rfl | exact Or.inr rfl | assumption) ?_
              exact back _ _ _ _ hst
          · rw [if_pos (show M (o + 8) r = 3 from c4)] at hst
            refine lda_5_4 (pc := 74) d_Mg_goByPlan_74 ?_
            refine r_bipush (pc := 76) (v := 99) d_Mg_goByPlan_76 rfl ?_
            refine lda_5_4 (pc := 78) d_Mg_goByPlan_78 ?_
            refine g_Mg_127 (pc := 80) rfl d_Mg_goByPlan_80 (by assumption) ?_
            refine r_bipush (pc := 83) (v := 10) d_Mg_goByPlan_83 rfl ?_
            refine r_iadd (pc := 85) d_Mg_goByPlan_85 ?_
            refine r_callS (pc := 86) (As := [.int 99, .int (M (qm o j) 3 + 10)]) k_Mg_84 sw_jM_min rfl (by decide) d_Mg_goByPlan_86 (c_min _ _) rfl (Nat.le_of_ble_eq_true rfl) (by omega) (by omega) (by omega) (fun v S' I' J' hq => ?_)
            obtain ⟨rfl, rfl, rfl, rfl⟩ := hq
            refine p_Mg_127 (pc := 89) rfl d_Mg_goByPlan_89 (by assumption) ?_
            refine r_goto (pc := 92) (tgt := 110) d_Mg_goByPlan_92 (by decide) ?_
            exact back _ _ _ _ hst
      · rw [if_pos c2] at hst
        refine lda_n_5_0 (pc := 37) d_Mg_goByPlan_37 ?_
        refine r_iconst (pc := 38) (v := 1) d_Mg_goByPlan_38 rfl ?_
        refine r_ldc (pc := 39) ct_Mg_118 d_Mg_goByPlan_39 ?_
        refine r_callV (pc := 41) (As := [.int (nI 1), .int 2147483647]) (k := 3) (N := 9) (T := T_Mg) k_Mg_119 im_Mg_go se_Mg_go rfl (by decide) rfl (by decide) d_Mg_goByPlan_41 (by assumption) (c_Mg_go hM0 okM hIM hap (by omega)) rfl (Nat.le_of_ble_eq_true rfl) (by omega) (by omega) (by omega) (fun v S' I' J' hq => ?_)
        obtain ⟨rfl, rfl, hq2, rfl⟩ := hq
        refine r_goto (pc := 44) (tgt := 110) d_Mg_goByPlan_44 (by decide) ?_
        exact back _ _ _ _ (hst.tr hq2)
theorem qseen_t {I : qI} {o D z r : Nat} (h : qMgOK I o D) (hr : r < z) (hz : z ≤ 5) : ∃ t, t ≤ 20 ∧ I (o + 6) r = nI t := h.2.2.2.2.2.2.2 r (by omega)
theorem c_Mg_isAsSeen {o i m D : Nat} (hM : isMg S o i) (hMo : isMo S m) (hm : m + 1 < i ∨ i + 4 < m) (hok : qMgOK I o D) (hI : qIsOK I i) (hap : qApart o i) (hD : D < 100000) : qMet E y_Mg_isAsSeen b_Mg_isAsSeen 3 (some .boolean) 4 0 0 [.ref (qb E + o), .ref (qb E + m)] S I J (fun v S' I' J' => v = some (.int (qseenN I o i m (I (o + 3) 3).toNatClampNeg (I (o + 3) 3).toNatClampNeg)) ∧ S = S' ∧ qEq (i + 4) I I' ∧ J = J') := by
  have hM0 := hM
  obtain ⟨hT, hA1, hA2, hR0, hR2, hR5, hR6, hR7, hR8, hN1, hN2, hN3, hIs, hRp, hMp⟩ := hM
  obtain ⟨gT, gA1, gA2, gA3, gR0, gR1, gR2⟩ := hN1
  have hT3 := hMo.1
  obtain ⟨z, hz5, hz⟩ := hok.2.2.2.1
  rw [hz, qcl (by omega)]
  refine qMet.of (L := [some (.ref (qb E + o)), some (.ref (qb E + m)), none]) (by decide +kernel) (Nat.le_of_ble_eq_true rfl) rfl ?_
  refine r_iconst (pc := 0) (v := 0) d_Mg_isAsSeen_0 rfl ?_
  refine sti_n_3_2 (pc := 1) d_Mg_isAsSeen_1 rfl ?_
  have key := qfor (P := fun k => ∀ M : qI, qEq (i + 4) I M → qW E y_Mg_isAsSeen b_Mg_isAsSeen (some .boolean) 4 0 0 (fun v S' I' J' => v = some (.int (qseenN I o i m z (z - k))) ∧ S = S' ∧ qEq (i + 4) I I' ∧ J = J') 0 0 2 [some (.ref (qb E + o)), some (.ref (qb E + m)), some (.int (nI k))] [] S M J) z ?_ ?_ 0 (by omega)
  · exact key I qEq.rf
  · intro M hM1
    have ro : ∀ a, o ≤ a → a ≤ o + 26 → M a = I a := fun a h1 h2 => hM1 a (by rcases hap with q | q <;> omega)
    refine ldi_n_3_2 (pc := 2) d_Mg_isAsSeen_2 ?_
    refine lda_n_3_0 (pc := 3) d_Mg_isAsSeen_3 ?_
    refine g_Mg_26 (pc := 4) rfl d_Mg_isAsSeen_4 (by assumption) (by assumption) ?_
    refine g_Mg_109 (pc := 7) rfl d_Mg_isAsSeen_7 (by assumption) ?_
    rw [ro (o + 3) (by omega) (by omega), hz]
    refine r_icmp_ge (pc := 10) (tgt := 63) d_Mg_isAsSeen_10 (by decide) (fun c1 => ?_) (fun c1 => ?_)
    · refine r_iconst (pc := 63) (v := 1) d_Mg_isAsSeen_63 rfl ?_
      exact r_nret d_Mg_isAsSeen_64 rfl (qbool_n (by first | exact Or.inl rfl | exact Or.inr rfl | assumption | exact qwithin_b | exact qbit_b)) (by omega) (by omega) (⟨by rw [Nat.sub_self]; rfl, rfl, hM1, rfl⟩)
    · exact absurd (nI_le (Nat.le_refl _) (by omega)) c1
  · intro k hk ih M hM1
    have ro : ∀ a, o ≤ a → a ≤ o + 26 → M a = I a := fun a h1 h2 => hM1 a (by rcases hap with q | q <;> omega)
    have e : z - k = (z - (k + 1)) + 1 := by omega
    have e2 : z - (z - (k + 1) + 1) = k := by omega
    have hin : vp_in (nI k) 5 := vp_in_nI (by omega) (by omega)
    rw [e]
    unfold qseenN
    rw [e2]
    have hMm : M m = I m := hM1 m (by omega)
    refine ldi_n_3_2 (pc := 2) d_Mg_isAsSeen_2 ?_
    refine lda_n_3_0 (pc := 3) d_Mg_isAsSeen_3 ?_
    refine g_Mg_26 (pc := 4) rfl d_Mg_isAsSeen_4 (by assumption) (by assumption) ?_
    refine g_Mg_109 (pc := 7) rfl d_Mg_isAsSeen_7 (by assumption) ?_
    rw [ro (o + 3) (by omega) (by omega), hz]
    refine r_icmp_ge (pc := 10) (tgt := 63) d_Mg_isAsSeen_10 (by decide) (fun c1 => ?_) (fun c1 => ?_)
    · exact absurd c1 (nI_ge hk (by omega))
    · refine lda_n_3_0 (pc := 13) d_Mg_isAsSeen_13 ?_
      refine g_Mg_26 (pc := 14) rfl d_Mg_isAsSeen_14 (by assumption) (by assumption) ?_
      refine g_Mg_112 (pc := 17) rfl d_Mg_isAsSeen_17 (by assumption) (by assumption) ?_
      refine ldi_n_3_2 (pc := 20) d_Mg_isAsSeen_20 ?_
      refine r_iald (pc := 21) d_Mg_isAsSeen_21 (by assumption) (hin) ?_
      refine lda_n_3_1 (pc := 22) d_Mg_isAsSeen_22 ?_
      refine g_Mg_130 (pc := 23) rfl d_Mg_isAsSeen_23 (by assumption) ?_
      rw [qcl (by omega), ro (o + 3 + 1) (by omega) (by omega), hMm]
      refine r_icmp_ne (pc := 26) (tgt := 57) d_Mg_isAsSeen_26 (by decide) (fun c2 => ?_) (fun c2 => ?_)
      · rw [if_neg (fun h => c2 h.1)]
        refine inc_3_2 (pc := 57) (w := 1) d_Mg_isAsSeen_57 rfl rfl ?_
        refine r_goto (pc := 60) (tgt := 2) d_Mg_isAsSeen_60 (by decide) ?_
        rw [q1]
        exact ih M hM1
      · obtain ⟨t, ht20, ht⟩ := qseen_t hok (r := k) hk hz5
        have hMt : M (o + 3 + 3) k = nI t := by rw [ro (o + 3 + 3) (by omega) (by omega)]; exact ht
        obtain ⟨dd, hdd, hd⟩ := hok.2.2.1
        refine lda_n_3_0 (pc := 29) d_Mg_isAsSeen_29 ?_
        refine lda_n_3_1 (pc := 30) d_Mg_isAsSeen_30 ?_
        refine lda_n_3_0 (pc := 31) d_Mg_isAsSeen_31 ?_
        refine g_Mg_26 (pc := 32) rfl d_Mg_isAsSeen_32 (by assumption) (by assumption) ?_
        refine g_Mg_133 (pc := 35) rfl d_Mg_isAsSeen_35 (by assumption) (by assumption) ?_
        refine ldi_n_3_2 (pc := 38) d_Mg_isAsSeen_38 ?_
        refine r_iald (pc := 39) d_Mg_isAsSeen_39 (by assumption) (hin) ?_
        rw [qcl (by omega), hMt]
        refine r_callV (pc := 40) (As := [.ref (qb E + m), .int (nI t)]) (k := 3) (N := 9) (T := T_Mg) k_Mg_105 im_Mg_painOf se_Mg_painOf rfl (by decide) rfl (by decide) d_Mg_isAsSeen_40 (by assumption) (c_Mg_painOf hM0 hMo hm (hI.of (hM1 i (by omega)) (hM1 (i + 3) (by omega))) (dd := dd) (by rw [ro o (by omega) (by omega)]; exact hd) (by omega)) rfl (Nat.le_of_ble_eq_true rfl) (by omega) (by omega) (by omega) (fun v S' I' J' hq => ?_)
        obtain ⟨rfl, rfl, rfl, rfl⟩ := hq
        rw [qpainAt_eq hM1 (by rcases hap with q | q <;> omega) (by omega)]
        refine lda_n_3_0 (pc := 43) d_Mg_isAsSeen_43 ?_
        refine g_Mg_26 (pc := 44) rfl d_Mg_isAsSeen_44 (by assumption) (by assumption) ?_
        refine g_Mg_115 (pc := 47) rfl d_Mg_isAsSeen_47 (by assumption) (by assumption) ?_
        refine ldi_n_3_2 (pc := 50) d_Mg_isAsSeen_50 ?_
        refine r_iald (pc := 51) d_Mg_isAsSeen_51 (by assumption) (hin) ?_
        rw [qcl (by omega), qfil_o (show o + 3 + 2 ≠ i + 4 by rcases hap with q | q <;> omega), ro (o + 3 + 2) (by omega) (by omega)]
        refine r_icmp_eq (pc := 52) (tgt := 57) d_Mg_isAsSeen_52 (by decide) (fun c3 => ?_) (fun c3 => ?_)
        · rw [if_neg (fun h => h.2 (by rw [show I (o + 6) k = nI t from ht]; exact c3))]
          refine inc_3_2 (pc := 57) (w := 1) d_Mg_isAsSeen_57 rfl rfl ?_
          refine r_goto (pc := 60) (tgt := 2) d_Mg_isAsSeen_60 (by decide) ?_
          rw [q1]
          exact ih _ hM1.fil
        · rw [if_pos ⟨c2, by rw [show I (o + 6) k = nI t from ht]; exact c3⟩]
          refine r_iconst (pc := 55) (v := 0) d_Mg_isAsSeen_55 rfl ?_
          exact r_nret d_Mg_isAsSeen_56 rfl (qbool_n (by first | exact Or.inl rfl | exact Or.inr rfl | assumption | exact qwithin_b | exact qbit_b)) (by omega) (by omega) (⟨rfl, rfl, hM1.fil, rfl⟩)
end QC7
