/-! islands, acts -/
theorem qW.forget {E : qE} {y : MethodName} {cc : ByteArray} {ret : Option FieldType} {d mc ms cells slots pc : Nat} {Q : qPost} {L : List (Option Value)} {st : List Value} {S : qSh} {I : qI} {J : qJ} (i : Nat) (k : qW E y cc ret d mc ms Q cells slots pc (L.set i none) st S I J) : qW E y cc ret d mc ms Q cells slots pc L st S I J := by
  refine qW.sub (by rw [List.length_set]) (fun j v h => ?_) k
  by_cases e : j = i
  · subst e
    rw [List.getElem?_set] at h
    simp at h
  · rwa [List.getElem?_set_ne (Ne.symm e)] at h
theorem qin_of {q : Int32} {n : Nat} (hn : n < 2 ^ 31) (h0 : ¬ q < 0) (h1 : q < nI n) : vp_in q n := by
  obtain ⟨j, hj, rfl⟩ := nI_of h0
  exact vp_in_nI ((nI_ltI hj hn).mp h1) hn
def qclear (I : qI) (o : Nat) : qI := qup (qup (qup I o 1 0) o 4 0) o 5 0
def qput (I : qI) (o k : Nat) (x : Int32) : qI := if k < 100 then qup (qup I (o + 1) k x) o 1 (nI (k + 1)) else I
def qendc (I : qI) (o k : Nat) (x : Int32) : qI := if k < 10 then qup (qup (qup I (o + 2) k x) (o + 3) k (I o 1)) o 4 (nI (k + 1)) else I
/-- a test of an E, by what the letters stand for -/
def qtestV (vs : Nat → Int32) (x : Int32) : Int32 :=
  if x / 300 < 0 ∨ 6 ≤ x / 300 then 0 else if x / 100 - x / 100 / 3 * 3 = 0 then (if vs (x / 300).toNatClampNeg < x - x / 100 * 100 then 1 else 0) else if x / 100 - x / 100 / 3 * 3 = 1 then (if vs (x / 300).toNatClampNeg = x - x / 100 * 100 then 1 else 0) else (if x - x / 100 * 100 < vs (x / 300).toNatClampNeg then 1 else 0)
theorem qtestV_b {vs : Nat → Int32} {x : Int32} : qbool (qtestV vs x) := by
  unfold qtestV; repeat' split
  all_goals simp [qbool]
def qsoStep (vs : Nat → Int32) (x b : Int32) : Int32 :=
  if x = -1 then b ^^^ 1 else if x = -2 then (b.toUInt32 >>> ((1 : Int32).toUInt32 &&& Int32.toUInt32 31)).toInt32 &&& (-2 ||| (b &&& 1)) else if x = -3 then (b.toUInt32 >>> ((1 : Int32).toUInt32 &&& Int32.toUInt32 31)).toInt32 ||| (b &&& 1) else (b <<< ((1 : Int32) &&& 31)) ||| (if qtestV vs x = 0 then 0 else 1)
def qsoN (f vs : Nat → Int32) (a : Nat) : Nat → Int32
  | 0 => 0
  | j + 1 => qsoStep vs (f (a + j)) (qsoN f vs a j)
def qisSo (f vs : Nat → Int32) (a b : Nat) : Int32 := if qsoN f vs a (b - a) &&& 1 = 1 then 1 else 0
def qvals (I : qI) (m : Nat) (d w : Int32) : Nat → Int32 := fun k => match k with
  | 0 => I m 0
  | 1 => I m 1
  | 2 => I m 2
  | 3 => I m 3 / 10
  | 4 => w
  | _ => d - d / 10 * 10
def qe (I : qI) (o j : Nat) : Nat := (I (o + 3) j).toNatClampNeg
def qfrom (e : Nat → Nat) : Nat → Nat
  | 0 => 0
  | j + 1 => e j
def qsumN (I : qI) (o : Nat) (vs : Nat → Int32) (g : Int32) : Nat → Int32
  | 0 => g
  | j + 1 => if qisSo (I (o + 1)) vs (qfrom (qe I o) j) (qe I o j) = 0 then qsumN I o vs g j else qsumN I o vs g j + I (o + 2) j
def qsum (I : qI) (o : Nat) (vs : Nat → Int32) (g : Int32) : Int32 := qsumN I o vs g (I o 4).toNatClampNeg
/-- an island's numbers are in their bounds -/
def qIsOK (I : qI) (o : Nat) : Prop := (∃ c, c ≤ 10 ∧ I o 4 = nI c ∧ ∀ j, j < c → ∃ e, e ≤ 100 ∧ I (o + 3) j = nI e) ∧ ∃ z, z ≤ 100 ∧ I o 1 = nI z
section QC3
variable {E : qE} {S : qSh} {I : qI} {J : qJ}
theorem c_Is_init {o : Nat} (hT : qT S o 1) (hz : qZ S I J) : qMet E y_Is_init b_Is_init 1 none 2 4 126 [.ref (qb E + o)] S I J (fun v S' I' J' => v = none ∧ S' = qal (qal (qal (qal S o 0 11 100) o 2 11 10) o 3 11 10) o 6 11 6 ∧ I = I' ∧ J = J') := by
  refine qMet.of (L := [some (.ref (qb E + o))]) (by decide +kernel) (Nat.le_of_ble_eq_true rfl) rfl ?_
  refine lda_n_1_0 (pc := 0) d_Is_init_0 ?_
  refine r_objInit (pc := 1) ml_Is_3 im_objInit cw_objInit d_Is_init_1 (by omega) (Nat.le_of_ble_eq_true rfl) ?_
  refine lda_n_1_0 (pc := 4) d_Is_init_4 ?_
  refine r_bipush (pc := 5) (v := 100) d_Is_init_5 rfl ?_
  refine r_newaG (pc := 7) (k := 11) (n' := 100) (by decide) (by decide) rfl d_Is_init_7 ac_int (by decide) rfl (by decide) (by omega) (by omega) ?_
  rw [hz.i, hz.j]
  have hT := hT.push (k2 := 11) (n := 100)
  refine p_Is_9 (pc := 9) rfl rfl d_Is_init_9 (by assumption) ?_
  change qW _ _ _ _ _ _ _ _ _ _ _ _ _ (qal S o 0 11 100) _ _
  have hz := hz.al (o := o) (j := 0) (k := 11) (n := 100)
  have hT : qT (qal S o 0 11 100) o 1 := hT
  refine lda_n_1_0 (pc := 12) d_Is_init_12 ?_
  refine r_bipush (pc := 13) (v := 10) d_Is_init_13 rfl ?_
  refine r_newaG (pc := 15) (k := 11) (n' := 10) (by decide) (by decide) rfl d_Is_init_15 ac_int (by decide) rfl (by decide) (by omega) (by omega) ?_
  rw [hz.i, hz.j]
  have hT := hT.push (k2 := 11) (n := 10)
  refine p_Is_15 (pc := 17) rfl rfl d_Is_init_17 (by assumption) ?_
  change qW _ _ _ _ _ _ _ _ _ _ _ _ _ (qal (qal S o 0 11 100) o 2 11 10) _ _
  have hz := hz.al (o := o) (j := 2) (k := 11) (n := 10)
  have hT : qT (qal (qal S o 0 11 100) o 2 11 10) o 1 := hT
  refine lda_n_1_0 (pc := 20) d_Is_init_20 ?_
  refine r_bipush (pc := 21) (v := 10) d_Is_init_21 rfl ?_
  refine r_newaG (pc := 23) (k := 11) (n' := 10) (by decide) (by decide) rfl d_Is_init_23 ac_int (by decide) rfl (by decide) (by omega) (by omega) ?_
  rw [hz.i, hz.j]
  have hT := hT.push (k2 := 11) (n := 10)
  refine p_Is_18 (pc := 25) rfl rfl d_Is_init_25 (by assumption) ?_
  change qW _ _ _ _ _ _ _ _ _ _ _ _ _ (qal (qal (qal S o 0 11 100) o 2 11 10) o 3 11 10) _ _
  have hz := hz.al (o := o) (j := 3) (k := 11) (n := 10)
  have hT : qT (qal (qal (qal S o 0 11 100) o 2 11 10) o 3 11 10) o 1 := hT
  refine lda_n_1_0 (pc := 28) d_Is_init_28 ?_
  refine r_ldcS (pc := 29) (tx := "pkvgwd") (i := 0) (by decide +kernel) d_Is_init_29 ?_
  refine r_callStr (As := []) (i := 0) (by decide) k_Is_25 im_jS_length se_jS_length rfl (by decide) d_Is_init_31 (c_length (by decide)) rfl (Nat.le_of_ble_eq_true rfl) (by omega) (by omega) (by omega) (fun v S' I' J' hq => ?_)
  obtain ⟨rfl, rfl, rfl, rfl⟩ := hq
  refine r_newaG (pc := 34) (k := 11) (n' := 6) (by decide) (by decide) rfl d_Is_init_34 ac_int (by decide +kernel) (by decide +kernel) (by decide) (by omega) (by omega) ?_
  rw [hz.i, hz.j]
  have hT := hT.push (k2 := 11) (n := 6)
  refine p_Is_31 (pc := 36) rfl rfl d_Is_init_36 (by assumption) ?_
  exact r_vret d_Is_init_39 rfl (by omega) (by omega) (⟨rfl, rfl, rfl, rfl⟩)
theorem c_Is_clear {o : Nat} (hT : qT S o 1) : qMet E y_Is_clear b_Is_clear 1 none 0 0 0 [.ref (qb E + o)] S I J (fun v S' I' J' => v = none ∧ S = S' ∧ I' = qclear I o ∧ J = J') := by
  refine qMet.of (L := [some (.ref (qb E + o))]) (by decide +kernel) (Nat.le_of_ble_eq_true rfl) rfl ?_
  refine lda_n_1_0 (pc := 0) d_Is_clear_0 ?_
  refine r_iconst (pc := 1) (v := 0) d_Is_clear_1 rfl ?_
  refine p_Is_34 (pc := 2) rfl d_Is_clear_2 (by assumption) ?_
  refine lda_n_1_0 (pc := 5) d_Is_clear_5 ?_
  refine r_iconst (pc := 6) (v := 0) d_Is_clear_6 rfl ?_
  refine p_Is_38 (pc := 7) rfl d_Is_clear_7 (by assumption) ?_
  refine lda_n_1_0 (pc := 10) d_Is_clear_10 ?_
  refine r_iconst (pc := 11) (v := 0) d_Is_clear_11 rfl ?_
  refine p_Is_41 (pc := 12) rfl d_Is_clear_12 (by assumption) ?_
  refine r_vret d_Is_clear_15 rfl (by omega) (by omega) ?_
  exact ⟨rfl, rfl, rfl, rfl⟩
theorem c_Is_put {o k : Nat} {x : Int32} (hM : isIs S o) (hk : I o 1 = nI k) (h100 : k ≤ 100) : qMet E y_Is_put b_Is_put 2 none 0 0 0 [.ref (qb E + o), .int x] S I J (fun v S' I' J' => v = none ∧ S = S' ∧ I' = qput I o k x ∧ J = J') := by
  obtain ⟨hT, hA1, hA2, hA3, hA4, hR0, hR2, hR3, hR6⟩ := hM
  refine qMet.of (L := [some (.ref (qb E + o)), some (.int x)]) (by decide +kernel) (Nat.le_of_ble_eq_true rfl) rfl ?_
  refine lda_n_2_0 (pc := 0) d_Is_put_0 ?_
  refine g_Is_34 (pc := 1) rfl d_Is_put_1 (by assumption) ?_
  refine r_bipush (pc := 4) (v := 100) d_Is_put_4 rfl ?_
  rw [hk]
  unfold qput
  refine r_icmp_ge (pc := 6) (tgt := 29) d_Is_put_6 (by decide) (fun c => ?_) (fun c => ?_)
  · have h : ¬ k < 100 := fun h => absurd (show nI 100 ≤ nI k from c) (nI_ge h (by omega))
    rw [if_neg h]
    exact r_vret d_Is_put_29 rfl (by omega) (by omega) (⟨rfl, rfl, rfl, rfl⟩)
  · have h : k < 100 := by
      rcases Nat.lt_or_ge k 100 with h | h
      · exact h
      · exact absurd (show nI 100 ≤ nI k from nI_le h (by omega)) c
    rw [if_pos h]
    refine lda_n_2_0 (pc := 9) d_Is_put_9 ?_
    refine g_Is_9 (pc := 10) rfl d_Is_put_10 (by assumption) (by assumption) ?_
    refine lda_n_2_0 (pc := 13) d_Is_put_13 ?_
    refine g_Is_34 (pc := 14) rfl d_Is_put_14 (by assumption) ?_
    rw [hk]
    refine ldi_n_2_1 (pc := 17) d_Is_put_17 ?_
    refine r_iast (pc := 18) d_Is_put_18 (by assumption) (by first | assumption | exact vp_in_nI (by omega) (by omega) | (unfold vp_in; decide)) ?_
    refine lda_n_2_0 (pc := 19) d_Is_put_19 ?_
    refine r_dup (pc := 20) d_Is_put_20 rfl ?_
    refine g_Is_34 (pc := 21) rfl d_Is_put_21 (by assumption) ?_
    rw [qcl (by omega), qup_o (show o ≠ o + 1 by omega), hk]
    refine r_iconst (pc := 24) (v := 1) d_Is_put_24 rfl ?_
    refine r_iadd (pc := 25) d_Is_put_25 ?_
    refine p_Is_34 (pc := 26) rfl d_Is_put_26 (by assumption) ?_
    exact r_vret d_Is_put_29 rfl (by omega) (by omega) (⟨rfl, rfl, by rw [q1], rfl⟩)
theorem c_Is_endClause {o k : Nat} {x : Int32} (hM : isIs S o) (hk : I o 4 = nI k) (h10 : k ≤ 10) : qMet E y_Is_endClause b_Is_endClause 2 none 0 0 0 [.ref (qb E + o), .int x] S I J (fun v S' I' J' => v = none ∧ S = S' ∧ I' = qendc I o k x ∧ J = J') := by
  obtain ⟨hT, hA1, hA2, hA3, hA4, hR0, hR2, hR3, hR6⟩ := hM
  refine qMet.of (L := [some (.ref (qb E + o)), some (.int x)]) (by decide +kernel) (Nat.le_of_ble_eq_true rfl) rfl ?_
  refine lda_n_2_0 (pc := 0) d_Is_endClause_0 ?_
  refine g_Is_38 (pc := 1) rfl d_Is_endClause_1 (by assumption) ?_
  refine r_bipush (pc := 4) (v := 10) d_Is_endClause_4 rfl ?_
  rw [hk]
  unfold qendc
  refine r_icmp_ge (pc := 6) (tgt := 42) d_Is_endClause_6 (by decide) (fun c => ?_) (fun c => ?_)
  · have h : ¬ k < 10 := fun h => absurd (show nI 10 ≤ nI k from c) (nI_ge h (by omega))
    rw [if_neg h]
    exact r_vret d_Is_endClause_42 rfl (by omega) (by omega) (⟨rfl, rfl, rfl, rfl⟩)
  · have h : k < 10 := by
      rcases Nat.lt_or_ge k 10 with h | h
      · exact h
      · exact absurd (show nI 10 ≤ nI k from nI_le h (by omega)) c
    rw [if_pos h]
    have hin : vp_in (nI k) 10 := vp_in_nI h (by omega)
    refine lda_n_2_0 (pc := 9) d_Is_endClause_9 ?_
    refine g_Is_15 (pc := 10) rfl d_Is_endClause_10 (by assumption) (by assumption) ?_
    refine lda_n_2_0 (pc := 13) d_Is_endClause_13 ?_
    refine g_Is_38 (pc := 14) rfl d_Is_endClause_14 (by assumption) ?_
    rw [hk]
    refine ldi_n_2_1 (pc := 17) d_Is_endClause_17 ?_
    refine r_iast (pc := 18) d_Is_endClause_18 (by assumption) (hin) ?_
    refine lda_n_2_0 (pc := 19) d_Is_endClause_19 ?_
    refine g_Is_18 (pc := 20) rfl d_Is_endClause_20 (by assumption) (by assumption) ?_
    refine lda_n_2_0 (pc := 23) d_Is_endClause_23 ?_
    refine g_Is_38 (pc := 24) rfl d_Is_endClause_24 (by assumption) ?_
    rw [qup_o (show o ≠ o + 2 by omega), hk, qcl (by omega)]
    refine lda_n_2_0 (pc := 27) d_Is_endClause_27 ?_
    refine g_Is_34 (pc := 28) rfl d_Is_endClause_28 (by assumption) ?_
    rw [qup_o (show o ≠ o + 2 by omega)]
    refine r_iast (pc := 31) d_Is_endClause_31 (by assumption) (hin) ?_
    refine lda_n_2_0 (pc := 32) d_Is_endClause_32 ?_
    refine r_dup (pc := 33) d_Is_endClause_33 rfl ?_
    refine g_Is_38 (pc := 34) rfl d_Is_endClause_34 (by assumption) ?_
    rw [qcl (by omega), qup_o (show o ≠ o + 3 by omega), qup_o (show o ≠ o + 2 by omega), hk]
    refine r_iconst (pc := 37) (v := 1) d_Is_endClause_37 rfl ?_
    refine r_iadd (pc := 38) d_Is_endClause_38 ?_
    refine p_Is_38 (pc := 39) rfl d_Is_endClause_39 (by assumption) ?_
    exact r_vret d_Is_endClause_42 rfl (by omega) (by omega) (⟨rfl, rfl, by rw [q1], rfl⟩)
theorem c_Is_testCode {a b c : Int32} : qMet E y_Is_testCode b_Is_testCode 3 (some .int) 0 0 0 [.int a, .int b, .int c] S I J (qPi S I J ((a * 3 + b) * 100 + c)) := by
  refine qMet.of (L := [some (.int a), some (.int b), some (.int c)]) (by decide +kernel) (Nat.le_of_ble_eq_true rfl) rfl ?_
  refine ldi_n_3_0 (pc := 0) d_Is_testCode_0 ?_
  refine r_iconst (pc := 1) (v := 3) d_Is_testCode_1 rfl ?_
  refine r_imul (pc := 2) d_Is_testCode_2 ?_
  refine ldi_n_3_1 (pc := 3) d_Is_testCode_3 ?_
  refine r_iadd (pc := 4) d_Is_testCode_4 ?_
  refine r_bipush (pc := 5) (v := 100) d_Is_testCode_5 rfl ?_
  refine r_imul (pc := 7) d_Is_testCode_7 ?_
  refine ldi_n_3_2 (pc := 8) d_Is_testCode_8 ?_
  refine r_iadd (pc := 9) d_Is_testCode_9 ?_
  refine r_iret d_Is_testCode_10 rfl (by omega) (by omega) ?_
  exact ⟨rfl, rfl, rfl, rfl⟩
theorem c_Is_isTestSo {o : Nat} {x : Int32} (hM : isIs S o) : qMet E y_Is_isTestSo b_Is_isTestSo 6 (some .boolean) 0 0 0 [.ref (qb E + o), .int x] S I J (qPi S I J (qtestV (I (o + 4)) x)) := by
  obtain ⟨hT, hA1, hA2, hA3, hA4, hR0, hR2, hR3, hR6⟩ := hM
  refine qMet.of (L := [some (.ref (qb E + o)), some (.int x), none, none, none, none]) (by decide +kernel) (Nat.le_of_ble_eq_true rfl) rfl ?_
  refine ldi_n_6_1 (pc := 0) d_Is_isTestSo_0 ?_
  refine r_sipush (pc := 1) (v := 300) d_Is_isTestSo_1 rfl ?_
  refine r_idiv (pc := 4) d_Is_isTestSo_4 (by decide) ?_
  refine sti_n_6_2 (pc := 5) d_Is_isTestSo_5 rfl ?_
  refine ldi_n_6_1 (pc := 6) d_Is_isTestSo_6 ?_
  refine r_bipush (pc := 7) (v := 100) d_Is_isTestSo_7 rfl ?_
  refine r_idiv (pc := 9) d_Is_isTestSo_9 (by decide) ?_
  refine r_iconst (pc := 10) (v := 3) d_Is_isTestSo_10 rfl ?_
  refine r_irem (pc := 11) d_Is_isTestSo_11 (by decide) ?_
  refine sti_n_6_3 (pc := 12) d_Is_isTestSo_12 rfl ?_
  refine ldi_n_6_2 (pc := 13) d_Is_isTestSo_13 ?_
  unfold qtestV
  refine r_if_lt (pc := 14) (tgt := 26) d_Is_isTestSo_14 (by decide) (fun c => ?_) (fun c => ?_)
  · rw [if_pos (Or.inl c)]
    refine r_iconst (pc := 26) (v := 0) d_Is_isTestSo_26 rfl ?_
    refine r_nret d_Is_isTestSo_27 rfl (qbool_n (by first | exact Or.inl rfl | exact Or.inr rfl | assumption | exact qwithin_b | exact qbit_b)) (by omega) (by omega) ?_
    exact ⟨rfl, rfl, rfl, rfl⟩
  · refine ldi_n_6_2 (pc := 17) d_Is_isTestSo_17 ?_
    refine lda_n_6_0 (pc := 18) d_Is_isTestSo_18 ?_
    refine g_Is_31 (pc := 19) rfl d_Is_isTestSo_19 (by assumption) (by assumption) ?_
    refine r_alen (pc := 22) d_Is_isTestSo_22 (by assumption) (by decide) (by decide) rfl ?_
    refine r_icmp_lt (pc := 23) (tgt := 28) d_Is_isTestSo_23 (by decide) (fun c2 => ?_) (fun c2 => ?_)
    · have hn : ¬ (x / 300 < 0 ∨ 6 ≤ x / 300) := fun h => h.elim c (fun h => absurd c2 (Int32.not_lt.mpr h))
      rw [if_neg hn]
      have hin : vp_in (x / 300) 6 := qin_of (by decide) c c2
      refine lda_n_6_0 (pc := 28) d_Is_isTestSo_28 ?_
      refine g_Is_31 (pc := 29) rfl d_Is_isTestSo_29 (by assumption) (by assumption) ?_
      refine ldi_n_6_2 (pc := 32) d_Is_isTestSo_32 ?_
      refine r_iald (pc := 33) d_Is_isTestSo_33 (by assumption) (hin) ?_
      refine sti_6_4 (pc := 34) d_Is_isTestSo_34 rfl ?_
      refine ldi_n_6_1 (pc := 36) d_Is_isTestSo_36 ?_
      refine r_bipush (pc := 37) (v := 100) d_Is_isTestSo_37 rfl ?_
      refine r_irem (pc := 39) d_Is_isTestSo_39 (by decide) ?_
      refine sti_6_5 (pc := 40) d_Is_isTestSo_40 rfl ?_
      refine ldi_n_6_3 (pc := 42) d_Is_isTestSo_42 ?_
      refine r_if_ne (pc := 43) (tgt := 61) d_Is_isTestSo_43 (by decide) (fun c3 => ?_) (fun c3 => ?_)
      · rw [if_neg c3]
        refine ldi_n_6_3 (pc := 61) d_Is_isTestSo_61 ?_
        refine r_iconst (pc := 62) (v := 1) d_Is_isTestSo_62 rfl ?_
        refine r_icmp_ne (pc := 63) (tgt := 81) d_Is_isTestSo_63 (by decide) (fun c4 => ?_) (fun c4 => ?_)
        · rw [if_neg c4]
          refine ldi_6_4 (pc := 81) d_Is_isTestSo_81 ?_
          refine ldi_6_5 (pc := 83) d_Is_isTestSo_83 ?_
          refine r_icmp_le (pc := 85) (tgt := 92) d_Is_isTestSo_85 (by decide) (fun c85 => ?_) (fun c85 => ?_)
          · refine r_iconst (pc := 92) (v := 0) d_Is_isTestSo_92 rfl ?_
            refine r_nret d_Is_isTestSo_93 rfl (qbool_n (by first | exact Or.inl rfl | exact Or.inr rfl | assumption | exact qwithin_b | exact qbit_b)) (by omega) (by omega) ?_
            exact ⟨by (first | rw [if_pos (by assumption)] | rw [if_neg (by assumption)] | rw [if_pos (Int32.not_le.mp (by assumption))] | rw [if_neg (Int32.not_lt.mpr (by assumption))] | rw [if_neg (Int32.not_le.mpr (by assumption))] | rw [if_pos (Int32.not_lt.mp (by assumption))]), rfl, rfl, rfl⟩
          · refine r_iconst (pc := 88) (v := 1) d_Is_isTestSo_88 rfl ?_
            refine r_goto (pc := 89) (tgt := 93) d_Is_isTestSo_89 (by decide) ?_
            refine r_nret d_Is_isTestSo_93 rfl (qbool_n (by first | exact Or.inl rfl | exact Or.inr rfl | assumption | exact qwithin_b | exact qbit_b)) (by omega) (by omega) ?_
            exact ⟨by (first | rw [if_pos (by assumption)] | rw [if_neg (by assumption)] | rw [if_pos (Int32.not_le.mp (by assumption))] | rw [if_neg (Int32.not_lt.mpr (by assumption))] | rw [if_neg (Int32.not_le.mpr (by assumption))] | rw [if_pos (Int32.not_lt.mp (by assumption))]), rfl, rfl, rfl⟩
        · rw [if_pos c4]
          refine ldi_6_4 (pc := 66) d_Is_isTestSo_66 ?_
          refine ldi_6_5 (pc := 68) d_Is_isTestSo_68 ?_
          refine r_icmp_ne (pc := 70) (tgt := 77) d_Is_isTestSo_70 (by decide) (fun c70 => ?_) (fun c70 => ?_)
          · refine r_iconst (pc := 77) (v := 0) d_Is_isTestSo_77 rfl ?_
            refine r_goto (pc := 78) (tgt := 93) d_Is_isTestSo_78 (by decide) ?_
            refine r_nret d_Is_isTestSo_93 rfl (qbool_n (by first | exact Or.inl rfl | exact Or.inr rfl | assumption | exact qwithin_b | exact qbit_b)) (by omega) (by omega) ?_
            exact ⟨by (first | rw [if_pos (by assumption)] | rw [if_neg (by assumption)] | rw [if_pos (Int32.not_le.mp (by assumption))] | rw [if_neg (Int32.not_lt.mpr (by assumption))] | rw [if_neg (Int32.not_le.mpr (by assumption))] | rw [if_pos (Int32.not_lt.mp (by assumption))]), rfl, rfl, rfl⟩
          · refine r_iconst (pc := 73) (v := 1) d_Is_isTestSo_73 rfl ?_
            refine r_goto (pc := 74) (tgt := 93) d_Is_isTestSo_74 (by decide) ?_
            refine r_nret d_Is_isTestSo_93 rfl (qbool_n (by first | exact Or.inl rfl | exact Or.inr rfl | assumption | exact qwithin_b | exact qbit_b)) (by omega) (by omega) ?_
            exact ⟨by (first | rw [if_pos (by assumption)] | rw [if_neg (by assumption)] | rw [if_pos (Int32.not_le.mp (by assumption))] | rw [if_neg (Int32.not_lt.mpr (by assumption))] | rw [if_neg (Int32.not_le.mpr (by assumption))] | rw [if_pos (Int32.not_lt.mp (by assumption))]), rfl, rfl, rfl⟩
      · rw [if_pos c3]
        refine ldi_6_4 (pc := 46) d_Is_isTestSo_46 ?_
        refine ldi_6_5 (pc := 48) d_Is_isTestSo_48 ?_
        refine r_icmp_ge (pc := 50) (tgt := 57) d_Is_isTestSo_50 (by decide) (fun c50 => ?_) (fun c50 => ?_)
        · refine r_iconst (pc := 57) (v := 0) d_Is_isTestSo_57 rfl ?_
          refine r_goto (pc := 58) (tgt := 93) d_Is_isTestSo_58 (by decide) ?_
          refine r_nret d_Is_isTestSo_93 rfl (qbool_n (by first | exact Or.inl rfl | exact Or.inr rfl | assumption | exact qwithin_b | exact qbit_b)) (by omega) (by omega) ?_
          exact ⟨by (first | rw [if_pos (by assumption)] | rw [if_neg (by assumption)] | rw [if_pos (Int32.not_le.mp (by assumption))] | rw [if_neg (Int32.not_lt.mpr (by assumption))] | rw [if_neg (Int32.not_le.mpr (by assumption))] | rw [if_pos (Int32.not_lt.mp (by assumption))]), rfl, rfl, rfl⟩
        · refine r_iconst (pc := 53) (v := 1) d_Is_isTestSo_53 rfl ?_
          refine r_goto (pc := 54) (tgt := 93) d_Is_isTestSo_54 (by decide) ?_
          refine r_nret d_Is_isTestSo_93 rfl (qbool_n (by first | exact Or.inl rfl | exact Or.inr rfl | assumption | exact qwithin_b | exact qbit_b)) (by omega) (by omega) ?_
          exact ⟨by (first | rw [if_pos (by assumption)] | rw [if_neg (by assumption)] | rw [if_pos (Int32.not_le.mp (by assumption))] | rw [if_neg (Int32.not_lt.mpr (by assumption))] | rw [if_neg (Int32.not_le.mpr (by assumption))] | rw [if_pos (Int32.not_lt.mp (by assumption))]), rfl, rfl, rfl⟩
    · rw [if_pos (Or.inr (show 6 ≤ x / 300 from Int32.not_lt.mp c2))]
      refine r_iconst (pc := 26) (v := 0) d_Is_isTestSo_26 rfl ?_
      refine r_nret d_Is_isTestSo_27 rfl (qbool_n (by first | exact Or.inl rfl | exact Or.inr rfl | assumption | exact qwithin_b | exact qbit_b)) (by omega) (by omega) ?_
      exact ⟨rfl, rfl, rfl, rfl⟩
theorem c_Is_isSo {o a b : Nat} (hM : isIs S o) (ha : a ≤ 100) (hb : b ≤ 100) : qMet E y_Is_isSo b_Is_isSo 7 (some .boolean) 1 0 0 [.ref (qb E + o), .int (nI a), .int (nI b)] S I J (qPi S I J (qisSo (I (o + 1)) (I (o + 4)) a b)) := by
  have hM0 := hM
  obtain ⟨hT, hA1, hA2, hA3, hA4, hR0, hR2, hR3, hR6⟩ := hM
  refine qMet.of (L := [some (.ref (qb E + o)), some (.int (nI a)), some (.int (nI b)), none, none, none, none]) (by decide +kernel) (Nat.le_of_ble_eq_true rfl) rfl ?_
  refine r_iconst (pc := 0) (v := 0) d_Is_isSo_0 rfl ?_
  refine sti_n_7_3 (pc := 1) d_Is_isSo_1 rfl ?_
  refine ldi_n_7_1 (pc := 2) d_Is_isSo_2 ?_
  refine sti_7_4 (pc := 3) d_Is_isSo_3 rfl ?_
  have key := qfor (P := fun j => qW E y_Is_isSo b_Is_isSo (some .boolean) 1 0 0 (qPi S I J (qisSo (I (o + 1)) (I (o + 4)) a b)) 0 0 5 [some (.ref (qb E + o)), some (.int (nI a)), some (.int (nI b)), some (.int (qsoN (I (o + 1)) (I (o + 4)) a j)), some (.int (nI (a + j))), none, none] [] S I J) (b - a) ?_ ?_ 0 (by omega)
  · exact key
  · refine ldi_7_4 (pc := 5) d_Is_isSo_5 ?_
    refine ldi_n_7_2 (pc := 7) d_Is_isSo_7 ?_
    refine r_icmp_ge (pc := 8) (tgt := 95) d_Is_isSo_8 (by decide) (fun c => ?_) (fun c => ?_)
    · unfold qisSo
      refine ldi_n_7_3 (pc := 95) d_Is_isSo_95 ?_
      refine r_iconst (pc := 96) (v := 1) d_Is_isSo_96 rfl ?_
      refine r_iand (pc := 97) d_Is_isSo_97 ?_
      refine r_iconst (pc := 98) (v := 1) d_Is_isSo_98 rfl ?_
      refine r_icmp_ne (pc := 99) (tgt := 106) d_Is_isSo_99 (by decide) (fun c2 => ?_) (fun c2 => ?_)
      · rw [if_neg c2]
        refine r_iconst (pc := 106) (v := 0) d_Is_isSo_106 rfl ?_
        refine r_nret d_Is_isSo_107 rfl (qbool_n (by first | exact Or.inl rfl | exact Or.inr rfl | assumption | exact qwithin_b | exact qbit_b)) (by omega) (by omega) ?_
        exact ⟨rfl, rfl, rfl, rfl⟩
      · rw [if_pos c2]
        refine r_iconst (pc := 102) (v := 1) d_Is_isSo_102 rfl ?_
        refine r_goto (pc := 103) (tgt := 107) d_Is_isSo_103 (by decide) ?_
        refine r_nret d_Is_isSo_107 rfl (qbool_n (by first | exact Or.inl rfl | exact Or.inr rfl | assumption | exact qwithin_b | exact qbit_b)) (by omega) (by omega) ?_
        exact ⟨rfl, rfl, rfl, rfl⟩
    · exact absurd (nI_le (by omega) (by omega)) c
  · intro j hj ih
    refine ldi_7_4 (pc := 5) d_Is_isSo_5 ?_
    refine ldi_n_7_2 (pc := 7) d_Is_isSo_7 ?_
    refine r_icmp_ge (pc := 8) (tgt := 95) d_Is_isSo_8 (by decide) (fun c => ?_) (fun c => ?_)
    · exact absurd c (nI_ge (by omega) (by omega))
    · have hin : vp_in (nI (a + j)) 100 := vp_in_nI (by omega) (by omega)
      refine lda_n_7_0 (pc := 11) d_Is_isSo_11 ?_
      refine g_Is_9 (pc := 12) rfl d_Is_isSo_12 (by assumption) (by assumption) ?_
      refine ldi_7_4 (pc := 15) d_Is_isSo_15 ?_
      refine r_iald (pc := 17) d_Is_isSo_17 (by assumption) (by first | assumption | exact vp_in_nI (by omega) (by omega) | (unfold vp_in; decide)) ?_
      refine sti_7_5 (pc := 18) d_Is_isSo_18 rfl ?_
      refine ldi_n_7_3 (pc := 20) d_Is_isSo_20 ?_
      refine r_iconst (pc := 21) (v := 1) d_Is_isSo_21 rfl ?_
      refine r_iand (pc := 22) d_Is_isSo_22 ?_
      refine sti_7_6 (pc := 23) d_Is_isSo_23 rfl ?_
      refine ldi_7_5 (pc := 25) d_Is_isSo_25 ?_
      refine r_iconst (pc := 27) (v := (-1)) d_Is_isSo_27 rfl ?_
      rw [qcl (by omega)]
      have back : ∀ (x z : Int32), z = qsoN (I (o + 1)) (I (o + 4)) a (j + 1) → qW E y_Is_isSo b_Is_isSo (some .boolean) 1 0 0 (qPi S I J (qisSo (I (o + 1)) (I (o + 4)) a b)) 0 0 89 [some (.ref (qb E + o)), some (.int (nI a)), some (.int (nI b)), some (.int z), some (.int (nI (a + j))), some (.int (I (o + 1) (a + j))), some (.int x)] [] S I J := by
        intro x z hz
        subst hz
        refine inc_7_4 (pc := 89) (w := 1) d_Is_isSo_89 rfl rfl ?_
        refine r_goto (pc := 92) (tgt := 5) d_Is_isSo_92 (by decide) ?_
        rw [q1]
        exact qW.forget 5 (qW.forget 6 ih)
      refine r_icmp_ne (pc := 28) (tgt := 38) d_Is_isSo_28 (by decide) (fun c1 => ?_) (fun c1 => ?_)
      · refine ldi_7_5 (pc := 38) d_Is_isSo_38 ?_
        refine r_bipush (pc := 40) (v := (-2)) d_Is_isSo_40 rfl ?_
        refine r_icmp_ne (pc := 42) (tgt := 58) d_Is_isSo_42 (by decide) (fun c2 => ?_) (fun c2 => ?_)
        · refine ldi_7_5 (pc := 58) d_Is_isSo_58 ?_
          refine r_bipush (pc := 60) (v := (-3)) d_Is_isSo_60 rfl ?_
          refine r_icmp_ne (pc := 62) (tgt := 75) d_Is_isSo_62 (by decide) (fun c3 => ?_) (fun c3 => ?_)
          · refine ldi_n_7_3 (pc := 75) d_Is_isSo_75 ?_
            refine r_iconst (pc := 76) (v := 1) d_Is_isSo_76 rfl ?_
            refine r_ishl (pc := 77) d_Is_isSo_77 ?_
            refine lda_n_7_0 (pc := 78) d_Is_isSo_78 ?_
            refine ldi_7_5 (pc := 79) d_Is_isSo_79 ?_
            refine r_callV (pc := 81) (As := [.int (I (o + 1) (a + j))]) (k := 1) (N := 7) (T := T_Is) k_Is_62 im_Is_isTestSo se_Is_isTestSo rfl (by decide) rfl (by decide) d_Is_isSo_81 (by assumption) (c_Is_isTestSo hM0) rfl (Nat.le_of_ble_eq_true rfl) (by omega) (by omega) (by omega) (fun v S' I' J' hq => ?_)
            obtain ⟨rfl, rfl, rfl, rfl⟩ := hq
            refine r_callSN (pc := 84) (As := [.int (qtestV (I (o + 4)) (I (o + 1) (a + j)))]) k_Is_66 sw_On_bit rfl (by decide) d_Is_isSo_84 (c_On_bit _) rfl (Nat.le_of_ble_eq_true rfl) (by omega) (by omega) (by omega) (fun v S' I' J' hq => ?_)
            obtain ⟨rfl, rfl, rfl, rfl⟩ := hq
            refine r_ior (pc := 87) d_Is_isSo_87 ?_
            refine sti_n_7_3 (pc := 88) d_Is_isSo_88 rfl ?_
            exact back _ _ (by rw [qsoN, qsoStep, if_neg c1, if_neg c2, if_neg c3])
          · refine ldi_n_7_3 (pc := 65) d_Is_isSo_65 ?_
            refine r_iconst (pc := 66) (v := 1) d_Is_isSo_66 rfl ?_
            refine r_iushr (pc := 67) d_Is_isSo_67 rfl ?_
            refine ldi_7_6 (pc := 68) d_Is_isSo_68 ?_
            refine r_ior (pc := 70) d_Is_isSo_70 ?_
            refine sti_n_7_3 (pc := 71) d_Is_isSo_71 rfl ?_
            refine r_goto (pc := 72) (tgt := 89) d_Is_isSo_72 (by decide) ?_
            exact back _ _ (by rw [qsoN, qsoStep, if_neg c1, if_neg c2, if_pos c3])
        · refine ldi_n_7_3 (pc := 45) d_Is_isSo_45 ?_
          refine r_iconst (pc := 46) (v := 1) d_Is_isSo_46 rfl ?_
          refine r_iushr (pc := 47) d_Is_isSo_47 rfl ?_
          refine r_bipush (pc := 48) (v := (-2)) d_Is_isSo_48 rfl ?_
          refine ldi_7_6 (pc := 50) d_Is_isSo_50 ?_
          refine r_ior (pc := 52) d_Is_isSo_52 ?_
          refine r_iand (pc := 53) d_Is_isSo_53 ?_
          refine sti_n_7_3 (pc := 54) d_Is_isSo_54 rfl ?_
          refine r_goto (pc := 55) (tgt := 89) d_Is_isSo_55 (by decide) ?_
          exact back _ _ (by rw [qsoN, qsoStep, if_neg c1, if_pos c2])
      · refine ldi_n_7_3 (pc := 31) d_Is_isSo_31 ?_
        refine r_iconst (pc := 32) (v := 1) d_Is_isSo_32 rfl ?_
        refine r_ixor (pc := 33) d_Is_isSo_33 ?_
        refine sti_n_7_3 (pc := 34) d_Is_isSo_34 rfl ?_
        refine r_goto (pc := 35) (tgt := 89) d_Is_isSo_35 (by decide) ?_
        exact back _ _ (by rw [qsoN, qsoStep, if_pos c1])
theorem qvals_fil {I0 : qI} {a : Nat} {f : Nat → Int32} : qup (qup (qup (qup (qup (qup I0 a 0 (f 0)) a 1 (f 1)) a 2 (f 2)) a 3 (f 3)) a 4 (f 4)) a 5 (f 5) = qfil I0 a 6 f := by
  rw [← qfil_s, ← qfil_s, ← qfil_s, ← qfil_s, ← qfil_s, ← qfil_s, qfil_0]
theorem qnI_ex {x : Int32} {n e : Nat} (h : x = nI e) (he : e ≤ n) (hn : n < 2 ^ 31) : x = nI x.toNatClampNeg ∧ x.toNatClampNeg ≤ n := by
  subst h; rw [qcl (by omega)]; exact ⟨rfl, he⟩
theorem c_Is_sum {o m : Nat} {d w : Int32} (hM : isIs S o) (hMo : isMo S m) (hm : m < o ∨ o + 4 < m) (hok : qIsOK I o) : qMet E y_Is_sum b_Is_sum 7 (some .int) 2 0 0 [.ref (qb E + o), .ref (qb E + m), .int d, .int w] S I J (fun v S' I' J' => v = some (.int (qsum I o (qvals I m d w) (I m 3))) ∧ S = S' ∧ I' = qfil I (o + 4) 6 (qvals I m d w) ∧ J = J') := by
  have hM0 := hM
  obtain ⟨hT, hA1, hA2, hA3, hA4, hR0, hR2, hR3, hR6⟩ := hM
  obtain ⟨gT, gA, gR⟩ := hMo
  obtain ⟨⟨c, hc, hI4, hends⟩, -⟩ := hok
  have hmo : m ≠ o + 4 := by omega
  refine qMet.of (L := [some (.ref (qb E + o)), some (.ref (qb E + m)), some (.int d), some (.int w), none, none, none]) (by decide +kernel) (Nat.le_of_ble_eq_true rfl) rfl ?_
  refine lda_n_7_0 (pc := 0) d_Is_sum_0 ?_
  refine g_Is_31 (pc := 1) rfl d_Is_sum_1 (by assumption) (by assumption) ?_
  refine r_iconst (pc := 4) (v := 0) d_Is_sum_4 rfl ?_
  refine lda_n_7_1 (pc := 5) d_Is_sum_5 ?_
  refine g_Is_44 (pc := 6) rfl d_Is_sum_6 (by assumption) ?_
  refine r_iast (pc := 9) d_Is_sum_9 (by assumption) (by first | assumption | exact vp_in_nI (by omega) (by omega) | (unfold vp_in; decide)) ?_
  refine lda_n_7_0 (pc := 10) d_Is_sum_10 ?_
  refine g_Is_31 (pc := 11) rfl d_Is_sum_11 (by assumption) (by assumption) ?_
  refine r_iconst (pc := 14) (v := 1) d_Is_sum_14 rfl ?_
  refine lda_n_7_1 (pc := 15) d_Is_sum_15 ?_
  refine g_Is_49 (pc := 16) rfl d_Is_sum_16 (by assumption) ?_
  refine r_iast (pc := 19) d_Is_sum_19 (by assumption) (by first | assumption | exact vp_in_nI (by omega) (by omega) | (unfold vp_in; decide)) ?_
  refine lda_n_7_0 (pc := 20) d_Is_sum_20 ?_
  refine g_Is_31 (pc := 21) rfl d_Is_sum_21 (by assumption) (by assumption) ?_
  refine r_iconst (pc := 24) (v := 2) d_Is_sum_24 rfl ?_
  refine lda_n_7_1 (pc := 25) d_Is_sum_25 ?_
  refine g_Is_52 (pc := 26) rfl d_Is_sum_26 (by assumption) ?_
  refine r_iast (pc := 29) d_Is_sum_29 (by assumption) (by first | assumption | exact vp_in_nI (by omega) (by omega) | (unfold vp_in; decide)) ?_
  refine lda_n_7_0 (pc := 30) d_Is_sum_30 ?_
  refine g_Is_31 (pc := 31) rfl d_Is_sum_31 (by assumption) (by assumption) ?_
  refine r_iconst (pc := 34) (v := 3) d_Is_sum_34 rfl ?_
  refine lda_n_7_1 (pc := 35) d_Is_sum_35 ?_
  refine g_Is_55 (pc := 36) rfl d_Is_sum_36 (by assumption) ?_
  refine r_bipush (pc := 39) (v := 10) d_Is_sum_39 rfl ?_
  refine r_idiv (pc := 41) d_Is_sum_41 (by decide) ?_
  refine r_iast (pc := 42) d_Is_sum_42 (by assumption) (by first | assumption | exact vp_in_nI (by omega) (by omega) | (unfold vp_in; decide)) ?_
  refine lda_n_7_0 (pc := 43) d_Is_sum_43 ?_
  refine g_Is_31 (pc := 44) rfl d_Is_sum_44 (by assumption) (by assumption) ?_
  refine r_iconst (pc := 47) (v := 4) d_Is_sum_47 rfl ?_
  refine ldi_n_7_3 (pc := 48) d_Is_sum_48 ?_
  refine r_iast (pc := 49) d_Is_sum_49 (by assumption) (by first | assumption | exact vp_in_nI (by omega) (by omega) | (unfold vp_in; decide)) ?_
  refine lda_n_7_0 (pc := 50) d_Is_sum_50 ?_
  refine g_Is_31 (pc := 51) rfl d_Is_sum_51 (by assumption) (by assumption) ?_
  refine r_iconst (pc := 54) (v := 5) d_Is_sum_54 rfl ?_
  refine ldi_n_7_2 (pc := 55) d_Is_sum_55 ?_
  refine r_bipush (pc := 56) (v := 10) d_Is_sum_56 rfl ?_
  refine r_irem (pc := 58) d_Is_sum_58 (by decide) ?_
  refine r_iast (pc := 59) d_Is_sum_59 (by assumption) (by first | assumption | exact vp_in_nI (by omega) (by omega) | (unfold vp_in; decide)) ?_
  refine lda_n_7_1 (pc := 60) d_Is_sum_60 ?_
  refine g_Is_55 (pc := 61) rfl d_Is_sum_61 (by assumption) ?_
  refine sti_7_4 (pc := 64) d_Is_sum_64 rfl ?_
  simp only [qup_o hmo]
  change qW _ _ _ _ _ _ _ _ _ _ _ _ _ _ (qup (qup (qup (qup (qup (qup I (o + 4) 0 (qvals I m d w 0)) (o + 4) 1 (qvals I m d w 1)) (o + 4) 2 (qvals I m d w 2)) (o + 4) 3 (qvals I m d w 3)) (o + 4) 4 (qvals I m d w 4)) (o + 4) 5 (qvals I m d w 5)) _
  rw [qvals_fil]
  have e1 : ∀ i, i ≠ 4 → qfil I (o + 4) 6 (qvals I m d w) (o + i) = I (o + i) := fun i hi => qfil_o (by omega)
  have e2 : qfil I (o + 4) 6 (qvals I m d w) o = I o := qfil_o (by omega)
  have hx : ∀ j, qfrom (qe I o) j ≤ 100 ∨ c < j := by
    intro j
    cases j with
    | zero => left; exact Nat.zero_le _
    | succ j =>
      by_cases h : j < c
      · left
        obtain ⟨e, he, h2⟩ := hends j h
        exact (qnI_ex h2 he (by omega)).2
      · right; omega
  refine r_iconst (pc := 66) (v := 0) d_Is_sum_66 rfl ?_
  refine sti_7_5 (pc := 67) d_Is_sum_67 rfl ?_
  refine r_iconst (pc := 69) (v := 0) d_Is_sum_69 rfl ?_
  refine sti_7_6 (pc := 70) d_Is_sum_70 rfl ?_
  have key := qfor (P := fun j => qW E y_Is_sum b_Is_sum (some .int) 2 0 0 (fun v S' I' J' => v = some (.int (qsum I o (qvals I m d w) (I m 3))) ∧ S = S' ∧ I' = qfil I (o + 4) 6 (qvals I m d w) ∧ J = J') 0 0 72 [some (.ref (qb E + o)), some (.ref (qb E + m)), some (.int d), some (.int w), some (.int (qsumN I o (qvals I m d w) (I m 3) j)), some (.int (nI (qfrom (qe I o) j))), some (.int (nI j))] [] S (qfil I (o + 4) 6 (qvals I m d w)) J) c ?_ ?_ 0 (by omega)
  · exact key
  · refine ldi_7_6 (pc := 72) d_Is_sum_72 ?_
    refine lda_n_7_0 (pc := 74) d_Is_sum_74 ?_
    refine g_Is_38 (pc := 75) rfl d_Is_sum_75 (by assumption) ?_
    rw [e2, hI4]
    refine r_icmp_ge (pc := 78) (tgt := 124) d_Is_sum_78 (by decide) (fun c1 => ?_) (fun c1 => ?_)
    · refine ldi_7_4 (pc := 124) d_Is_sum_124 ?_
      exact r_iret d_Is_sum_126 rfl (by omega) (by omega) (⟨by rw [qsum, hI4, qcl (by omega)], rfl, rfl, rfl⟩)
    · exact absurd (nI_le (Nat.le_refl _) (by omega)) c1
  · intro j hj ih
    obtain ⟨e, he, hej⟩ := hends j hj
    obtain ⟨hej2, hej3⟩ := qnI_ex hej he (by omega)
    change I (o + 3) j = nI (qe I o j) at hej2
    change qe I o j ≤ 100 at hej3
    have hf : qfrom (qe I o) j ≤ 100 := by rcases hx j with h | h
                                           · exact h
                                           · omega
    refine ldi_7_6 (pc := 72) d_Is_sum_72 ?_
    refine lda_n_7_0 (pc := 74) d_Is_sum_74 ?_
    refine g_Is_38 (pc := 75) rfl d_Is_sum_75 (by assumption) ?_
    rw [e2, hI4]
    refine r_icmp_ge (pc := 78) (tgt := 124) d_Is_sum_78 (by decide) (fun c1 => ?_) (fun c1 => ?_)
    · exact absurd c1 (nI_ge hj (by omega))
    · have hin : vp_in (nI j) 10 := vp_in_nI (by omega) (by omega)
      refine lda_n_7_0 (pc := 81) d_Is_sum_81 ?_
      refine ldi_7_5 (pc := 82) d_Is_sum_82 ?_
      refine lda_n_7_0 (pc := 84) d_Is_sum_84 ?_
      refine g_Is_18 (pc := 85) rfl d_Is_sum_85 (by assumption) (by assumption) ?_
      refine ldi_7_6 (pc := 88) d_Is_sum_88 ?_
      refine r_iald (pc := 90) d_Is_sum_90 (by assumption) (by first | assumption | exact vp_in_nI (by omega) (by omega) | (unfold vp_in; decide)) ?_
      rw [e1 3 (by decide), qcl (by omega), hej2]
      refine r_callV (pc := 91) (As := [.int (nI (qfrom (qe I o) j)), .int (nI (qe I o j))]) (k := 1) (N := 7) (T := T_Is) k_Is_58 im_Is_isSo se_Is_isSo rfl (by decide) rfl (by decide) d_Is_sum_91 (by assumption) (c_Is_isSo hM0 hf hej3) rfl (Nat.le_of_ble_eq_true rfl) (by omega) (by omega) (by omega) (fun v S' I' J' hq => ?_)
      obtain ⟨rfl, rfl, rfl, rfl⟩ := hq
      rw [e1 1 (by decide)]
      have hvs : ∀ k, k < 6 → qfil I (o + 4) 6 (qvals I m d w) (o + 4) k = qvals I m d w k := fun k hk => by simp [qfil, hk]
      have hso : qisSo (I (o + 1)) (qfil I (o + 4) 6 (qvals I m d w) (o + 4)) (qfrom (qe I o) j) (qe I o j) = qisSo (I (o + 1)) (qvals I m d w) (qfrom (qe I o) j) (qe I o j) := by
        have ht : ∀ x, qtestV (qfil I (o + 4) 6 (qvals I m d w) (o + 4)) x = qtestV (qvals I m d w) x := by
          intro x
          unfold qtestV
          by_cases h : x / 300 < 0 ∨ 6 ≤ x / 300
          · rw [if_pos h, if_pos h]
          · have h6 : (x / 300).toNatClampNeg < 6 := by
              have h1 : ¬ 6 ≤ x / 300 := fun q => h (Or.inr q)
              exact qin_lt (qin_of (n := 6) (by decide) (fun q => h (Or.inl q)) (Int32.not_le.mp h1))
            rw [hvs _ h6]
        have hn : ∀ a n, qsoN (I (o + 1)) (qfil I (o + 4) 6 (qvals I m d w) (o + 4)) a n = qsoN (I (o + 1)) (qvals I m d w) a n := by
          intro a n
          induction n with
          | zero => rfl
          | succ n ihn => rw [qsoN, qsoN, ihn]; unfold qsoStep; rw [ht]
        unfold qisSo
        rw [hn]
      rw [hso]
      have back : ∀ z : Int32, z = qsumN I o (qvals I m d w) (I m 3) (j + 1) → qW E y_Is_sum b_Is_sum (some .int) 2 0 0 (fun v S' I' J' => v = some (.int (qsum I o (qvals I m d w) (I m 3))) ∧ S = S' ∧ I' = qfil I (o + 4) 6 (qvals I m d w) ∧ J = J') 0 0 109 [some (.ref (qb E + o)), some (.ref (qb E + m)), some (.int d), some (.int w), some (.int z), some (.int (nI (qfrom (qe I o) j))), some (.int (nI j))] [] S (qfil I (o + 4) 6 (qvals I m d w)) J := by
        intro z hz
        subst hz
        refine lda_n_7_0 (pc := 109) d_Is_sum_109 ?_
        refine g_Is_18 (pc := 110) rfl d_Is_sum_110 (by assumption) (by assumption) ?_
        refine ldi_7_6 (pc := 113) d_Is_sum_113 ?_
        refine r_iald (pc := 115) d_Is_sum_115 (by assumption) (by first | assumption | exact vp_in_nI (by omega) (by omega) | (unfold vp_in; decide)) ?_
        rw [e1 3 (by decide), qcl (by omega), hej2]
        refine sti_7_5 (pc := 116) d_Is_sum_116 rfl ?_
        refine inc_7_6 (pc := 118) (w := 1) d_Is_sum_118 rfl rfl ?_
        refine r_goto (pc := 121) (tgt := 72) d_Is_sum_121 (by decide) ?_
        rw [q1]
        exact ih
      refine r_if_eq (pc := 94) (tgt := 109) d_Is_sum_94 (by decide) (fun c2 => ?_) (fun c2 => ?_)
      · exact back _ (by rw [qsumN, if_pos c2])
      · refine ldi_7_4 (pc := 97) d_Is_sum_97 ?_
        refine lda_n_7_0 (pc := 99) d_Is_sum_99 ?_
        refine g_Is_15 (pc := 100) rfl d_Is_sum_100 (by assumption) (by assumption) ?_
        refine ldi_7_6 (pc := 103) d_Is_sum_103 ?_
        refine r_iald (pc := 105) d_Is_sum_105 (by assumption) (by first | assumption | exact vp_in_nI (by omega) (by omega) | (unfold vp_in; decide)) ?_
        rw [e1 2 (by decide), qcl (by omega)]
        refine r_iadd (pc := 106) d_Is_sum_106 ?_
        refine sti_7_4 (pc := 107) d_Is_sum_107 rfl ?_
        exact back _ (by rw [qsumN, if_neg c2])
end QC3
