/-! a Mourning: lost days, whose day it is, pain, days that go -/
def qlost (n d : Int32) : Int32 := if 1 < n then (if d + 1 - (d + 1) / n * n = 0 then 1 else 0) else 0
theorem qlost_b {n d : Int32} : qbool (qlost n d) := by
  unfold qlost; repeat' split
  all_goals simp [qbool]
def qm (o p : Nat) : Nat := o + 15 + 2 * p
def qleft (I : qI) (o : Nat) (x : Int32) : Int32 := if x < 0 then 0 else if I o 1 ≤ x then 0 else if I (qm o x.toNatClampNeg) 6 = 0 then 1 else 0
theorem qleft_b {I : qI} {o : Nat} {x : Int32} : qbool (qleft I o x) := by
  unfold qleft; repeat' split
  all_goals simp [qbool]
def qhasN (f t : Nat → Int32) (l : Nat) : Nat → Int32
  | 0 => -5
  | j + 1 => if t (l - (j + 1)) = 0 then qhasN f t l j else f (l - (j + 1))
/-- who has the day, by the list, if it isn't lost -/
def qhas (I : qI) (o i : Nat) : Int32 := if qlost (I i 5) (I o 4) = 0 then qhasN (I (o + 2)) (fun k => qleft I o (I (o + 2) k)) (I o 3).toNatClampNeg (I o 3).toNatClampNeg else -5
def qsumP (f : Nat → Int32) : Nat → Int32
  | 0 => 0
  | n + 1 => qsumP f n + f n
def qbit (x : Int32) : Int32 := if x = 0 then 0 else 1
def qhurts (I : qI) (o : Nat) : Int32 := qsumP (fun p => I (qm o p) 5) (I o 1).toNatClampNeg
def qdones (I : qI) (o : Nat) : Int32 := qsumP (fun p => qbit (I (qm o p) 6)) (I o 1).toNatClampNeg
/-- PAIN of the one m on a day d, having waited w, by the island i -/
def qpain (I : qI) (i m : Nat) (d w : Int32) : Int32 := qmax 0 (qpainBy I m (qsum I i (qvals I m d w) (I m 3)) d w)
def qpainAt (I : qI) (o i m : Nat) (n : Int32) : Int32 := qpain I i m (I o 4 + n) (qmin 99 (I m 4 + n))
/-- a Mourning's numbers are in their bounds; its day is at most D -/
def qMgOK (I : qI) (o D : Nat) : Prop := (∃ c, c ≤ 6 ∧ I o 1 = nI c) ∧ (∃ l, l ≤ 6 ∧ I o 3 = nI l) ∧ (∃ d, d ≤ D ∧ I o 4 = nI d) ∧ (∃ z, z ≤ 5 ∧ I (o + 3) 3 = nI z) ∧ (∃ z, z ≤ 10 ∧ I (o + 7) 3 = nI z) ∧ (∃ z, z ≤ 8 ∧ I (o + 11) 3 = nI z) ∧ (∀ p, p < 6 → qbool (I (qm o p) 6)) ∧ ∀ r, r < 5 → ∃ z, z ≤ 20 ∧ I (o + 6) r = nI z
/-- the two are apart -/
def qApart (o i : Nat) : Prop := i + 4 < o ∨ o + 26 < i
section QC5
variable {E : qE} {S : qSh} {I : qI} {J : qJ}
theorem c_Mg_isLost {o i : Nat} {d : Int32} (hM : isMg S o i) : qMet E y_Mg_isLost b_Mg_isLost 2 (some .boolean) 0 0 0 [.ref (qb E + o), .int d] S I J (qPi S I J (qlost (I i 5) d)) := by
  obtain ⟨hT, hA1, hA2, hR0, hR2, hR5, hR6, hR7, hR8, hN1, hN2, hN3, hI, -, -⟩ := hM
  obtain ⟨gT, -⟩ := hI
  refine qMet.of (L := [some (.ref (qb E + o)), some (.int d)]) (by decide +kernel) (Nat.le_of_ble_eq_true rfl) rfl ?_
  refine lda_n_2_0 (pc := 0) d_Mg_isLost_0 ?_
  refine g_Mg_36 (pc := 1) rfl d_Mg_isLost_1 (by assumption) (by assumption) ?_
  refine g_Mg_58 (pc := 4) rfl d_Mg_isLost_4 (by assumption) ?_
  refine r_iconst (pc := 7) (v := 1) d_Mg_isLost_7 rfl ?_
  unfold qlost
  refine r_icmp_le (pc := 8) (tgt := 29) d_Mg_isLost_8 (by decide) (fun c => ?_) (fun c => ?_)
  · rw [if_neg (Int32.not_lt.mpr c)]
    refine r_iconst (pc := 29) (v := 0) d_Mg_isLost_29 rfl ?_
    refine r_nret d_Mg_isLost_30 rfl (qbool_n (by first | exact Or.inl rfl | exact Or.inr rfl | assumption | exact qwithin_b | exact qbit_b)) (by omega) (by omega) ?_
    exact ⟨rfl, rfl, rfl, rfl⟩
  · rw [if_pos (Int32.not_le.mp c)]
    have hne : ¬ I i 5 = 0 := fun h => c (by rw [h]; decide)
    refine ldi_n_2_1 (pc := 11) d_Mg_isLost_11 ?_
    refine r_iconst (pc := 12) (v := 1) d_Mg_isLost_12 rfl ?_
    refine r_iadd (pc := 13) d_Mg_isLost_13 ?_
    refine lda_n_2_0 (pc := 14) d_Mg_isLost_14 ?_
    refine g_Mg_36 (pc := 15) rfl d_Mg_isLost_15 (by assumption) (by assumption) ?_
    refine g_Mg_58 (pc := 18) rfl d_Mg_isLost_18 (by assumption) ?_
    refine r_irem (pc := 21) d_Mg_isLost_21 (hne) ?_
    refine r_if_ne (pc := 22) (tgt := 29) d_Mg_isLost_22 (by decide) (fun c2 => ?_) (fun c2 => ?_)
    · rw [if_neg c2]
      refine r_iconst (pc := 29) (v := 0) d_Mg_isLost_29 rfl ?_
      refine r_nret d_Mg_isLost_30 rfl (qbool_n (by first | exact Or.inl rfl | exact Or.inr rfl | assumption | exact qwithin_b | exact qbit_b)) (by omega) (by omega) ?_
      exact ⟨rfl, rfl, rfl, rfl⟩
    · rw [if_pos c2]
      refine r_iconst (pc := 25) (v := 1) d_Mg_isLost_25 rfl ?_
      refine r_goto (pc := 26) (tgt := 30) d_Mg_isLost_26 (by decide) ?_
      refine r_nret d_Mg_isLost_30 rfl (qbool_n (by first | exact Or.inl rfl | exact Or.inr rfl | assumption | exact qwithin_b | exact qbit_b)) (by omega) (by omega) ?_
      exact ⟨rfl, rfl, rfl, rfl⟩
theorem qix {x : Int32} {c : Nat} (hc : c < 2 ^ 31) (h0 : ¬ x < 0) (h1 : ¬ nI c ≤ x) : ∃ j, j < c ∧ x = nI j := by
  obtain ⟨j, hj, rfl⟩ := nI_of h0
  exact ⟨j, (nI_ltI hj hc).mp (Int32.not_le.mp h1), rfl⟩
theorem c_Mg_isLeft {o i c : Nat} {x : Int32} (hM : isMg S o i) (hc : I o 1 = nI c) (h6 : c ≤ 6) : qMet E y_Mg_isLeft b_Mg_isLeft 2 (some .boolean) 0 0 0 [.ref (qb E + o), .int x] S I J (qPi S I J (qleft I o x)) := by
  obtain ⟨hT, hA1, hA2, hR0, hR2, hR5, hR6, hR7, hR8, hN1, hN2, hN3, hI, hRp, hMp⟩ := hM
  refine qMet.of (L := [some (.ref (qb E + o)), some (.int x)]) (by decide +kernel) (Nat.le_of_ble_eq_true rfl) rfl ?_
  refine ldi_n_2_1 (pc := 0) d_Mg_isLeft_0 ?_
  unfold qleft
  refine r_if_lt (pc := 1) (tgt := 28) d_Mg_isLeft_1 (by decide) (fun c1 => ?_) (fun c1 => ?_)
  · rw [if_pos c1]
    refine r_iconst (pc := 28) (v := 0) d_Mg_isLeft_28 rfl ?_
    refine r_nret d_Mg_isLeft_29 rfl (qbool_n (by first | exact Or.inl rfl | exact Or.inr rfl | assumption | exact qwithin_b | exact qbit_b)) (by omega) (by omega) ?_
    exact ⟨rfl, rfl, rfl, rfl⟩
  · rw [if_neg c1]
    refine ldi_n_2_1 (pc := 4) d_Mg_isLeft_4 ?_
    refine lda_n_2_0 (pc := 5) d_Mg_isLeft_5 ?_
    refine g_Mg_41 (pc := 6) rfl d_Mg_isLeft_6 (by assumption) ?_
    refine r_icmp_ge (pc := 9) (tgt := 28) d_Mg_isLeft_9 (by decide) (fun c2 => ?_) (fun c2 => ?_)
    · rw [if_pos c2]
      refine r_iconst (pc := 28) (v := 0) d_Mg_isLeft_28 rfl ?_
      refine r_nret d_Mg_isLeft_29 rfl (qbool_n (by first | exact Or.inl rfl | exact Or.inr rfl | assumption | exact qwithin_b | exact qbit_b)) (by omega) (by omega) ?_
      exact ⟨rfl, rfl, rfl, rfl⟩
    · rw [if_neg c2]
      rw [hc] at c2
      obtain ⟨j, hj, rfl⟩ := qix (by omega) c1 c2
      have hin : vp_in (nI j) 6 := vp_in_nI (by omega) (by omega)
      have hR : qR S (o + 1) (nI j).toNatClampNeg = some (qm o j) := by rw [qcl (by omega)]; exact hRp j (by omega)
      have hT3 := (hMp j (by omega)).1
      change qT S (qm o j) 2 at hT3
      refine lda_n_2_0 (pc := 12) d_Mg_isLeft_12 ?_
      refine g_Mg_11 (pc := 13) rfl d_Mg_isLeft_13 (by assumption) (by assumption) ?_
      refine ldi_n_2_1 (pc := 16) d_Mg_isLeft_16 ?_
      refine r_aald14 (pc := 17) d_Mg_isLeft_17 (by assumption) (hin) (by assumption) ?_
      refine g_Mg_63 (pc := 18) rfl d_Mg_isLeft_18 (by assumption) ?_
      rw [qcl (by omega)]
      refine r_if_ne (pc := 21) (tgt := 28) d_Mg_isLeft_21 (by decide) (fun c3 => ?_) (fun c3 => ?_)
      · rw [if_neg c3]
        refine r_iconst (pc := 28) (v := 0) d_Mg_isLeft_28 rfl ?_
        refine r_nret d_Mg_isLeft_29 rfl (qbool_n (by first | exact Or.inl rfl | exact Or.inr rfl | assumption | exact qwithin_b | exact qbit_b)) (by omega) (by omega) ?_
        exact ⟨rfl, rfl, rfl, rfl⟩
      · rw [if_pos c3]
        refine r_iconst (pc := 24) (v := 1) d_Mg_isLeft_24 rfl ?_
        refine r_goto (pc := 25) (tgt := 29) d_Mg_isLeft_25 (by decide) ?_
        refine r_nret d_Mg_isLeft_29 rfl (qbool_n (by first | exact Or.inl rfl | exact Or.inr rfl | assumption | exact qwithin_b | exact qbit_b)) (by omega) (by omega) ?_
        exact ⟨rfl, rfl, rfl, rfl⟩
theorem c_Mg_hasDay {o i D : Nat} (hM : isMg S o i) (hok : qMgOK I o D) : qMet E y_Mg_hasDay b_Mg_hasDay 2 (some .int) 1 0 0 [.ref (qb E + o)] S I J (qPi S I J (qhas I o i)) := by
  have hM0 := hM
  obtain ⟨hT, hA1, hA2, hR0, hR2, hR5, hR6, hR7, hR8, hN1, hN2, hN3, hI, hRp, hMp⟩ := hM
  obtain ⟨⟨c, hc6, hc⟩, ⟨l, hl6, hl⟩, -⟩ := hok
  refine qMet.of (L := [some (.ref (qb E + o)), none]) (by decide +kernel) (Nat.le_of_ble_eq_true rfl) rfl ?_
  refine r_iconst (pc := 0) (v := 0) d_Mg_hasDay_0 rfl ?_
  refine sti_n_2_1 (pc := 1) d_Mg_hasDay_1 rfl ?_
  unfold qhas
  rw [hl, qcl (by omega)]
  have key := qfor (P := fun k => qW E y_Mg_hasDay b_Mg_hasDay (some .int) 1 0 0 (qPi S I J (if qlost (I i 5) (I o 4) = 0 then qhasN (I (o + 2)) (fun k => qleft I o (I (o + 2) k)) l (l - k) else -5)) 0 0 2 [some (.ref (qb E + o)), some (.int (nI k))] [] S I J) l ?_ ?_ 0 (by omega)
  · exact key
  · refine ldi_n_2_1 (pc := 2) d_Mg_hasDay_2 ?_
    refine lda_n_2_0 (pc := 3) d_Mg_hasDay_3 ?_
    refine g_Mg_49 (pc := 4) rfl d_Mg_hasDay_4 (by assumption) ?_
    rw [hl]
    refine r_icmp_ge (pc := 7) (tgt := 47) d_Mg_hasDay_7 (by decide) (fun c1 => ?_) (fun c1 => ?_)
    · refine r_bipush (pc := 47) (v := (-5)) d_Mg_hasDay_47 rfl ?_
      exact r_iret d_Mg_hasDay_49 rfl (by omega) (by omega) (⟨by rw [Nat.sub_self, qhasN]; split <;> rfl, rfl, rfl, rfl⟩)
    · exact absurd (nI_le (Nat.le_refl _) (by omega)) c1
  · intro k hk ih
    refine ldi_n_2_1 (pc := 2) d_Mg_hasDay_2 ?_
    refine lda_n_2_0 (pc := 3) d_Mg_hasDay_3 ?_
    refine g_Mg_49 (pc := 4) rfl d_Mg_hasDay_4 (by assumption) ?_
    rw [hl]
    refine r_icmp_ge (pc := 7) (tgt := 47) d_Mg_hasDay_7 (by decide) (fun c1 => ?_) (fun c1 => ?_)
    · exact absurd c1 (nI_ge hk (by omega))
    · have e : l - k = (l - (k + 1)) + 1 := by omega
      have e2 : l - (l - (k + 1) + 1) = k := by omega
      have hin : vp_in (nI k) 6 := vp_in_nI (by omega) (by omega)
      refine lda_n_2_0 (pc := 10) d_Mg_hasDay_10 ?_
      refine lda_n_2_0 (pc := 11) d_Mg_hasDay_11 ?_
      refine g_Mg_52 (pc := 12) rfl d_Mg_hasDay_12 (by assumption) ?_
      refine r_callV (pc := 15) (As := [.int (I o 4)]) (k := 3) (N := 9) (T := T_Mg) k_Mg_67 im_Mg_isLost se_Mg_isLost rfl (by decide) rfl (by decide) d_Mg_hasDay_15 (by assumption) (c_Mg_isLost hM0) rfl (Nat.le_of_ble_eq_true rfl) (by omega) (by omega) (by omega) (fun v S' I' J' hq => ?_)
      obtain ⟨rfl, rfl, rfl, rfl⟩ := hq
      refine r_if_ne (pc := 18) (tgt := 47) d_Mg_hasDay_18 (by decide) (fun c2 => ?_) (fun c2 => ?_)
      · rw [if_neg c2]
        refine r_bipush (pc := 47) (v := (-5)) d_Mg_hasDay_47 rfl ?_
        exact r_iret d_Mg_hasDay_49 rfl (by omega) (by omega) (⟨rfl, rfl, rfl, rfl⟩)
      · rw [if_pos c2, e, qhasN, e2]
        rw [if_pos c2] at ih
        refine lda_n_2_0 (pc := 21) d_Mg_hasDay_21 ?_
        refine lda_n_2_0 (pc := 22) d_Mg_hasDay_22 ?_
        refine g_Mg_17 (pc := 23) rfl d_Mg_hasDay_23 (by assumption) (by assumption) ?_
        refine ldi_n_2_1 (pc := 26) d_Mg_hasDay_26 ?_
        refine r_iald (pc := 27) d_Mg_hasDay_27 (by assumption) (hin) ?_
        rw [qcl (by omega)]
        refine r_callV (pc := 28) (As := [.int (I (o + 2) k)]) (k := 3) (N := 9) (T := T_Mg) k_Mg_71 im_Mg_isLeft se_Mg_isLeft rfl (by decide) rfl (by decide) d_Mg_hasDay_28 (by assumption) (c_Mg_isLeft hM0 hc hc6) rfl (Nat.le_of_ble_eq_true rfl) (by omega) (by omega) (by omega) (fun v S' I' J' hq => ?_)
        obtain ⟨rfl, rfl, rfl, rfl⟩ := hq
        refine r_if_eq (pc := 31) (tgt := 41) d_Mg_hasDay_31 (by decide) (fun c3 => ?_) (fun c3 => ?_)
        · rw [if_pos c3]
          refine inc_2_1 (pc := 41) (w := 1) d_Mg_hasDay_41 rfl rfl ?_
          refine r_goto (pc := 44) (tgt := 2) d_Mg_hasDay_44 (by decide) ?_
          rw [q1]
          exact ih
        · rw [if_neg c3]
          refine lda_n_2_0 (pc := 34) d_Mg_hasDay_34 ?_
          refine g_Mg_17 (pc := 35) rfl d_Mg_hasDay_35 (by assumption) (by assumption) ?_
          refine ldi_n_2_1 (pc := 38) d_Mg_hasDay_38 ?_
          refine r_iald (pc := 39) d_Mg_hasDay_39 (by assumption) (hin) ?_
          rw [qcl (by omega)]
          exact r_iret d_Mg_hasDay_40 rfl (by omega) (by omega) (⟨rfl, rfl, rfl, rfl⟩)
theorem c_Mg_hurtOfAll {o i D : Nat} (hM : isMg S o i) (hok : qMgOK I o D) : qMet E y_Mg_hurtOfAll b_Mg_hurtOfAll 3 (some .int) 0 0 0 [.ref (qb E + o)] S I J (qPi S I J (qhurts I o)) := by
  obtain ⟨hT, hA1, hA2, hR0, hR2, hR5, hR6, hR7, hR8, hN1, hN2, hN3, hI, hRp, hMp⟩ := hM
  obtain ⟨⟨c, hc6, hc⟩, -⟩ := hok
  refine qMet.of (L := [some (.ref (qb E + o)), none, none]) (by decide +kernel) (Nat.le_of_ble_eq_true rfl) rfl ?_
  refine r_iconst (pc := 0) (v := 0) d_Mg_hurtOfAll_0 rfl ?_
  refine sti_n_3_1 (pc := 1) d_Mg_hurtOfAll_1 rfl ?_
  refine r_iconst (pc := 2) (v := 0) d_Mg_hurtOfAll_2 rfl ?_
  refine sti_n_3_2 (pc := 3) d_Mg_hurtOfAll_3 rfl ?_
  unfold qhurts
  rw [hc, qcl (by omega)]
  have key := qfor (P := fun k => qW E y_Mg_hurtOfAll b_Mg_hurtOfAll (some .int) 0 0 0 (qPi S I J (qsumP (fun p => I (qm o p) 5) c)) 0 0 4 [some (.ref (qb E + o)), some (.int (qsumP (fun p => I (qm o p) 5) k)), some (.int (nI k))] [] S I J) c ?_ ?_ 0 (by omega)
  · exact key
  · refine ldi_n_3_2 (pc := 4) d_Mg_hurtOfAll_4 ?_
    refine lda_n_3_0 (pc := 5) d_Mg_hurtOfAll_5 ?_
    refine g_Mg_41 (pc := 6) rfl d_Mg_hurtOfAll_6 (by assumption) ?_
    rw [hc]
    refine r_icmp_ge (pc := 9) (tgt := 30) d_Mg_hurtOfAll_9 (by decide) (fun c1 => ?_) (fun c1 => ?_)
    · refine ldi_n_3_1 (pc := 30) d_Mg_hurtOfAll_30 ?_
      exact r_iret d_Mg_hurtOfAll_31 rfl (by omega) (by omega) (⟨rfl, rfl, rfl, rfl⟩)
    · exact absurd (nI_le (Nat.le_refl _) (by omega)) c1
  · intro k hk ih
    refine ldi_n_3_2 (pc := 4) d_Mg_hurtOfAll_4 ?_
    refine lda_n_3_0 (pc := 5) d_Mg_hurtOfAll_5 ?_
    refine g_Mg_41 (pc := 6) rfl d_Mg_hurtOfAll_6 (by assumption) ?_
    rw [hc]
    refine r_icmp_ge (pc := 9) (tgt := 30) d_Mg_hurtOfAll_9 (by decide) (fun c1 => ?_) (fun c1 => ?_)
    · exact absurd c1 (nI_ge hk (by omega))
    · have hin : vp_in (nI k) 6 := vp_in_nI (by omega) (by omega)
      have hR : qR S (o + 1) (nI k).toNatClampNeg = some (qm o k) := by rw [qcl (by omega)]; exact hRp k (by omega)
      have hT3 := (hMp k (by omega)).1
      change qT S (qm o k) 2 at hT3
      refine ldi_n_3_1 (pc := 12) d_Mg_hurtOfAll_12 ?_
      refine lda_n_3_0 (pc := 13) d_Mg_hurtOfAll_13 ?_
      refine g_Mg_11 (pc := 14) rfl d_Mg_hurtOfAll_14 (by assumption) (by assumption) ?_
      refine ldi_n_3_2 (pc := 17) d_Mg_hurtOfAll_17 ?_
      refine r_aald14 (pc := 18) d_Mg_hurtOfAll_18 (by assumption) (hin) (by assumption) ?_
      refine g_Mg_74 (pc := 19) rfl d_Mg_hurtOfAll_19 (by assumption) ?_
      refine r_iadd (pc := 22) d_Mg_hurtOfAll_22 ?_
      refine sti_n_3_1 (pc := 23) d_Mg_hurtOfAll_23 rfl ?_
      refine inc_3_2 (pc := 24) (w := 1) d_Mg_hurtOfAll_24 rfl rfl ?_
      refine r_goto (pc := 27) (tgt := 4) d_Mg_hurtOfAll_27 (by decide) ?_
      rw [q1]
      exact ih
theorem c_Mg_howManyDone {o i D : Nat} (hM : isMg S o i) (hok : qMgOK I o D) : qMet E y_Mg_howManyDone b_Mg_howManyDone 3 (some .int) 1 0 0 [.ref (qb E + o)] S I J (qPi S I J (qdones I o)) := by
  obtain ⟨hT, hA1, hA2, hR0, hR2, hR5, hR6, hR7, hR8, hN1, hN2, hN3, hI, hRp, hMp⟩ := hM
  obtain ⟨⟨c, hc6, hc⟩, -⟩ := hok
  refine qMet.of (L := [some (.ref (qb E + o)), none, none]) (by decide +kernel) (Nat.le_of_ble_eq_true rfl) rfl ?_
  refine r_iconst (pc := 0) (v := 0) d_Mg_howManyDone_0 rfl ?_
  refine sti_n_3_1 (pc := 1) d_Mg_howManyDone_1 rfl ?_
  refine r_iconst (pc := 2) (v := 0) d_Mg_howManyDone_2 rfl ?_
  refine sti_n_3_2 (pc := 3) d_Mg_howManyDone_3 rfl ?_
  unfold qdones
  rw [hc, qcl (by omega)]
  have key := qfor (P := fun k => qW E y_Mg_howManyDone b_Mg_howManyDone (some .int) 1 0 0 (qPi S I J (qsumP (fun p => qbit (I (qm o p) 6)) c)) 0 0 4 [some (.ref (qb E + o)), some (.int (qsumP (fun p => qbit (I (qm o p) 6)) k)), some (.int (nI k))] [] S I J) c ?_ ?_ 0 (by omega)
  · exact key
  · refine ldi_n_3_2 (pc := 4) d_Mg_howManyDone_4 ?_
    refine lda_n_3_0 (pc := 5) d_Mg_howManyDone_5 ?_
    refine g_Mg_41 (pc := 6) rfl d_Mg_howManyDone_6 (by assumption) ?_
    rw [hc]
    refine r_icmp_ge (pc := 9) (tgt := 33) d_Mg_howManyDone_9 (by decide) (fun c1 => ?_) (fun c1 => ?_)
    · refine ldi_n_3_1 (pc := 33) d_Mg_howManyDone_33 ?_
      exact r_iret d_Mg_howManyDone_34 rfl (by omega) (by omega) (⟨rfl, rfl, rfl, rfl⟩)
    · exact absurd (nI_le (Nat.le_refl _) (by omega)) c1
  · intro k hk ih
    refine ldi_n_3_2 (pc := 4) d_Mg_howManyDone_4 ?_
    refine lda_n_3_0 (pc := 5) d_Mg_howManyDone_5 ?_
    refine g_Mg_41 (pc := 6) rfl d_Mg_howManyDone_6 (by assumption) ?_
    rw [hc]
    refine r_icmp_ge (pc := 9) (tgt := 33) d_Mg_howManyDone_9 (by decide) (fun c1 => ?_) (fun c1 => ?_)
    · exact absurd c1 (nI_ge hk (by omega))
    · have hin : vp_in (nI k) 6 := vp_in_nI (by omega) (by omega)
      have hR : qR S (o + 1) (nI k).toNatClampNeg = some (qm o k) := by rw [qcl (by omega)]; exact hRp k (by omega)
      have hT3 := (hMp k (by omega)).1
      change qT S (qm o k) 2 at hT3
      refine ldi_n_3_1 (pc := 12) d_Mg_howManyDone_12 ?_
      refine lda_n_3_0 (pc := 13) d_Mg_howManyDone_13 ?_
      refine g_Mg_11 (pc := 14) rfl d_Mg_howManyDone_14 (by assumption) (by assumption) ?_
      refine ldi_n_3_2 (pc := 17) d_Mg_howManyDone_17 ?_
      refine r_aald14 (pc := 18) d_Mg_howManyDone_18 (by assumption) (hin) (by assumption) ?_
      refine g_Mg_63 (pc := 19) rfl d_Mg_howManyDone_19 (by assumption) ?_
      refine r_callSN (pc := 22) (As := [.int (I (qm o k) 6)]) k_Mg_77 sw_On_bit rfl (by decide) d_Mg_howManyDone_22 (c_On_bit _) rfl (Nat.le_of_ble_eq_true rfl) (by omega) (by omega) (by omega) (fun v S' I' J' hq => ?_)
      obtain ⟨rfl, rfl, rfl, rfl⟩ := hq
      refine r_iadd (pc := 25) d_Mg_howManyDone_25 ?_
      refine sti_n_3_1 (pc := 26) d_Mg_howManyDone_26 rfl ?_
      refine inc_3_2 (pc := 27) (w := 1) d_Mg_howManyDone_27 rfl rfl ?_
      refine r_goto (pc := 30) (tgt := 4) d_Mg_howManyDone_30 (by decide) ?_
      rw [q1]
      exact ih
theorem qpainBy_row {I I' : qI} {m : Nat} {x d w : Int32} (h0 : I' m = I m) (h1 : I' (m + 1) = I (m + 1)) : qpainBy I' m x d w = qpainBy I m x d w := by
  unfold qpainBy qsaved; rw [h0, h1]
theorem c_Mg_painOf {o i m n dd : Nat} (hM : isMg S o i) (hMo : isMo S m) (hm : m + 1 < i ∨ i + 4 < m) (hok : qIsOK I i) (hd : I o 4 = nI dd) (hdd : dd + n < 2 ^ 31) : qMet E y_Mg_painOf b_Mg_painOf 4 (some .int) 3 0 0 [.ref (qb E + o), .ref (qb E + m), .int (nI n)] S I J (fun v S' I' J' => v = some (.int (qpainAt I o i m (nI n))) ∧ S = S' ∧ I' = qfil I (i + 4) 6 (qvals I m (I o 4 + nI n) (qmin 99 (I m 4 + nI n))) ∧ J = J') := by
  have hMo0 := hMo
  obtain ⟨hT, hA1, hA2, hR0, hR2, hR5, hR6, hR7, hR8, hN1, hN2, hN3, hI, hRp, hMp⟩ := hM
  have gT := hMo.1
  have gI := hI.1
  by_cases hoi : o = i + 4
  · subst hoi
    have h1 := hI.2.2.2.2.1.2.1
    have h2 := hT.2
    rw [h1] at h2; exact absurd h2 (by decide)
  have e1 : ∀ f, qfil I (i + 4) 6 f o = I o := fun f => qfil_o hoi
  refine qMet.of (L := [some (.ref (qb E + o)), some (.ref (qb E + m)), some (.int (nI n)), none]) (by decide +kernel) (Nat.le_of_ble_eq_true rfl) rfl ?_
  refine r_bipush (pc := 0) (v := 99) d_Mg_painOf_0 rfl ?_
  refine lda_n_4_1 (pc := 2) d_Mg_painOf_2 ?_
  refine g_Mg_81 (pc := 3) rfl d_Mg_painOf_3 (by assumption) ?_
  refine ldi_n_4_2 (pc := 6) d_Mg_painOf_6 ?_
  refine r_iadd (pc := 7) d_Mg_painOf_7 ?_
  refine r_callS (pc := 8) (As := [.int 99, .int (I m 4 + nI n)]) k_Mg_84 sw_jM_min rfl (by decide) d_Mg_painOf_8 (c_min _ _) rfl (Nat.le_of_ble_eq_true rfl) (by omega) (by omega) (by omega) (fun v S' I' J' hq => ?_)
  obtain ⟨rfl, rfl, rfl, rfl⟩ := hq
  refine sti_n_4_3 (pc := 11) d_Mg_painOf_11 rfl ?_
  refine r_iconst (pc := 12) (v := 0) d_Mg_painOf_12 rfl ?_
  refine lda_n_4_1 (pc := 13) d_Mg_painOf_13 ?_
  refine lda_n_4_0 (pc := 14) d_Mg_painOf_14 ?_
  refine g_Mg_36 (pc := 15) rfl d_Mg_painOf_15 (by assumption) (by assumption) ?_
  refine lda_n_4_1 (pc := 18) d_Mg_painOf_18 ?_
  refine lda_n_4_0 (pc := 19) d_Mg_painOf_19 ?_
  refine g_Mg_52 (pc := 20) rfl d_Mg_painOf_20 (by assumption) ?_
  refine ldi_n_4_2 (pc := 23) d_Mg_painOf_23 ?_
  refine r_iadd (pc := 24) d_Mg_painOf_24 ?_
  refine ldi_n_4_3 (pc := 25) d_Mg_painOf_25 ?_
  refine r_callVN (pc := 26) (As := [.ref (qb E + m), .int (I o 4 + nI n), .int (qmin 99 (I m 4 + nI n))]) (k := 1) (N := 7) (T := T_Is) k_Mg_90 im_Is_sum se_Is_sum rfl (by decide) rfl (by decide) d_Mg_painOf_26 (by assumption) (c_Is_sum hI hMo0 (by omega) hok) rfl (Nat.le_of_ble_eq_true rfl) (by omega) (by omega) (by omega) (fun v S' I' J' hq => ?_)
  obtain ⟨rfl, rfl, rfl, rfl⟩ := hq
  refine lda_n_4_0 (pc := 29) d_Mg_painOf_29 ?_
  refine g_Mg_52 (pc := 30) rfl d_Mg_painOf_30 (by assumption) ?_
  refine ldi_n_4_2 (pc := 33) d_Mg_painOf_33 ?_
  refine r_iadd (pc := 34) d_Mg_painOf_34 ?_
  refine ldi_n_4_3 (pc := 35) d_Mg_painOf_35 ?_
  rw [e1]
  refine r_callVN (pc := 36) (As := [.int (qsum I i (qvals I m (I o 4 + nI n) (qmin 99 (I m 4 + nI n))) (I m 3)), .int (I o 4 + nI n), .int (qmin 99 (I m 4 + nI n))]) (k := 2) (N := 8) (T := T_Mo) k_Mg_94 im_Mo_painBy se_Mo_painBy rfl (by decide) rfl (by decide) d_Mg_painOf_36 (by assumption) (c_Mo_painBy hMo0 (dd := dd + n) (by rw [hd, nI_add]) hdd) rfl (Nat.le_of_ble_eq_true rfl) (by omega) (by omega) (by omega) (fun v S' I' J' hq => ?_)
  obtain ⟨rfl, rfl, rfl, rfl⟩ := hq
  refine r_callS (pc := 39) (As := [.int 0, .int (qpainBy (qfil I (i + 4) 6 (qvals I m (I o 4 + nI n) (qmin 99 (I m 4 + nI n)))) m (qsum I i (qvals I m (I o 4 + nI n) (qmin 99 (I m 4 + nI n))) (I m 3)) (I o 4 + nI n) (qmin 99 (I m 4 + nI n)))]) k_Mg_98 sw_jM_max rfl (by decide) d_Mg_painOf_39 (c_max _ _) rfl (Nat.le_of_ble_eq_true rfl) (by omega) (by omega) (by omega) (fun v S' I' J' hq => ?_)
  obtain ⟨rfl, rfl, rfl, rfl⟩ := hq
  rw [qpainBy_row (qfil_o (by omega)) (qfil_o (by omega))]
  exact r_iret d_Mg_painOf_42 rfl (by omega) (by omega) (⟨rfl, rfl, rfl, rfl⟩)
end QC5
