/-! notes, tapes, islands -/
def qfil3 (I : qI) (o n : Nat) (f g h : Nat → Int32) : qI := fun a j => if j < n ∧ a = o + 1 then f j else if j < n ∧ a = o + 2 then g j else if j < n ∧ a = o + 3 then h j else I a j
theorem qfil3_0 {I : qI} {o : Nat} {f g h : Nat → Int32} : qfil3 I o 0 f g h = I := by funext a j; simp [qfil3]
theorem qfil3_s {I : qI} {o k : Nat} {f g h : Nat → Int32} : qup (qup (qup (qfil3 I o k f g h) (o + 1) k (f k)) (o + 2) k (g k)) (o + 3) k (h k) = qfil3 I o (k + 1) f g h := by
  funext a j
  unfold qup qfil3
  by_cases h1 : a = o + 1
  · by_cases h2 : j = k
    · simp [h1, h2]
    · have : j < k + 1 ↔ j < k := by omega
      simp [h1, h2, this]
  · by_cases h3 : a = o + 2
    · by_cases h2 : j = k
      · simp [h3, h2]
      · have : j < k + 1 ↔ j < k := by omega
        simp [h3, h2, this]
    · by_cases h4 : a = o + 3
      · by_cases h2 : j = k
        · simp [h4, h2]
        · have : j < k + 1 ↔ j < k := by omega
          simp [h4, h2, this]
      · simp [h1, h3, h4]
theorem qfil3_o {I : qI} {o n a : Nat} {f g h : Nat → Int32} (h1 : a ≠ o + 1) (h2 : a ≠ o + 2) (h3 : a ≠ o + 3) : qfil3 I o n f g h a = I a := by funext j; simp [qfil3, h1, h2, h3]
section QC2
variable {E : qE} {S : qSh} {I : qI} {J : qJ}
theorem c_No_init {o n : Nat} (hn : n ≤ 100) (hT : qT S o 4) (hz : qZ S I J) : qMet E y_No_init b_No_init 2 none 1 3 (3 * n) [.ref (qb E + o), .int (nI n)] S I J (fun v S' I' J' => v = none ∧ S' = qal (qal (qal S o 0 11 n) o 1 11 n) o 2 11 n ∧ I = I' ∧ J = J') := by
  have h1 : ¬ nI n < 0 := nI_pos (by omega)
  have h2 : (nI n).toNatClampNeg = n := qcl (by omega)
  have h3 : n * 8 ≤ 536870912 := by omega
  refine qMet.of (L := [some (.ref (qb E + o)), some (.int (nI n))]) (by decide +kernel) (Nat.le_of_ble_eq_true rfl) rfl ?_
  refine lda_n_2_0 (pc := 0) d_No_init_0 ?_
  refine r_objInit (pc := 1) ml_No_3 im_objInit cw_objInit d_No_init_1 (by omega) (Nat.le_of_ble_eq_true rfl) ?_
  refine lda_n_2_0 (pc := 4) d_No_init_4 ?_
  refine ldi_n_2_1 (pc := 5) d_No_init_5 ?_
  refine r_newaG (pc := 6) (k := 11) (n' := n) (by decide) (by decide) rfl d_No_init_6 ac_int (h1) (h2) (h3) (by omega) (by omega) ?_
  rw [hz.i, hz.j]
  have hT := hT.push (k2 := 11) (n := n)
  refine p_No_9 (pc := 8) rfl rfl d_No_init_8 (by assumption) ?_
  change qW _ _ _ _ _ _ _ _ _ _ _ _ _ (qal S o 0 11 n) _ _
  have hz := hz.al (o := o) (j := 0) (k := 11) (n := n)
  have hT : qT (qal S o 0 11 n) o 4 := hT
  refine lda_n_2_0 (pc := 11) d_No_init_11 ?_
  refine ldi_n_2_1 (pc := 12) d_No_init_12 ?_
  refine r_newaG (pc := 13) (k := 11) (n' := n) (by decide) (by decide) rfl d_No_init_13 ac_int (h1) (h2) (h3) (by omega) (by omega) ?_
  rw [hz.i, hz.j]
  have hT := hT.push (k2 := 11) (n := n)
  refine p_No_15 (pc := 15) rfl rfl d_No_init_15 (by assumption) ?_
  change qW _ _ _ _ _ _ _ _ _ _ _ _ _ (qal (qal S o 0 11 n) o 1 11 n) _ _
  have hz := hz.al (o := o) (j := 1) (k := 11) (n := n)
  have hT : qT (qal (qal S o 0 11 n) o 1 11 n) o 4 := hT
  refine lda_n_2_0 (pc := 18) d_No_init_18 ?_
  refine ldi_n_2_1 (pc := 19) d_No_init_19 ?_
  refine r_newaG (pc := 20) (k := 11) (n' := n) (by decide) (by decide) rfl d_No_init_20 ac_int (h1) (h2) (h3) (by omega) (by omega) ?_
  rw [hz.i, hz.j]
  have hT := hT.push (k2 := 11) (n := n)
  refine p_No_18 (pc := 22) rfl rfl d_No_init_22 (by assumption) ?_
  exact r_vret d_No_init_25 rfl (by omega) (by omega) (⟨rfl, rfl, rfl, rfl⟩)
def qadd (I : qI) (o k : Nat) (a b c : Int32) : qI := qup (qup (qup (qup I (o + 1) k a) (o + 2) k b) (o + 3) k c) o 3 (nI (k + 1))
theorem c_No_add {o n k : Nat} {a b c : Int32} (hN : isNo S o n) (hk : I o 3 = nI k) (hkn : k ≤ n) (hn : n < 1000) : qMet E y_No_add b_No_add 4 (some .int) 0 0 0 [.ref (qb E + o), .int a, .int b, .int c] S I J (fun v S' I' J' => v = some (.int (if k < n then nI (k + 1) else -4)) ∧ S = S' ∧ I' = (if k < n then qadd I o k a b c else I) ∧ J = J') := by
  obtain ⟨hT, hA1, hA2, hA3, hR0, hR1, hR2⟩ := hN
  refine qMet.of (L := [some (.ref (qb E + o)), some (.int a), some (.int b), some (.int c)]) (by decide +kernel) (Nat.le_of_ble_eq_true rfl) rfl ?_
  refine lda_n_4_0 (pc := 0) d_No_add_0 ?_
  refine g_No_21 (pc := 1) rfl d_No_add_1 (by assumption) ?_
  refine lda_n_4_0 (pc := 4) d_No_add_4 ?_
  refine g_No_9 (pc := 5) rfl d_No_add_5 (by assumption) (by assumption) ?_
  refine r_alen (pc := 8) d_No_add_8 (by assumption) (by decide) (by decide) rfl ?_
  rw [hk]
  refine r_icmp_lt (pc := 9) (tgt := 15) d_No_add_9 (by decide) (fun c9 => ?_) (fun c9 => ?_)
  · have hlt : k < n := by
      rcases Nat.lt_or_ge k n with h | h
      · exact h
      · exact absurd (show nI k < nI n from c9) (nI_nlt h (by omega))
    have e1 : ∀ (M : qI) (x : Int32) (j i : Nat), i ≠ 0 → qup M (o + i) j x o 3 = M o 3 := fun M x j i hi => qup_o (by omega)
    have hin : vp_in (nI k) n := vp_in_nI hlt (by omega)
    rw [if_pos hlt, if_pos hlt]
    refine lda_n_4_0 (pc := 15) d_No_add_15 ?_
    refine g_No_9 (pc := 16) rfl d_No_add_16 (by assumption) (by assumption) ?_
    refine lda_n_4_0 (pc := 19) d_No_add_19 ?_
    refine g_No_21 (pc := 20) rfl d_No_add_20 (by assumption) ?_
    refine ldi_n_4_1 (pc := 23) d_No_add_23 ?_
    rw [hk]
    refine r_iast (pc := 24) d_No_add_24 (by assumption) (hin) ?_
    refine lda_n_4_0 (pc := 25) d_No_add_25 ?_
    refine g_No_15 (pc := 26) rfl d_No_add_26 (by assumption) (by assumption) ?_
    refine lda_n_4_0 (pc := 29) d_No_add_29 ?_
    refine g_No_21 (pc := 30) rfl d_No_add_30 (by assumption) ?_
    refine ldi_n_4_2 (pc := 33) d_No_add_33 ?_
    rw [e1 _ _ _ 1 (by decide), hk]
    refine r_iast (pc := 34) d_No_add_34 (by assumption) (hin) ?_
    refine lda_n_4_0 (pc := 35) d_No_add_35 ?_
    refine g_No_18 (pc := 36) rfl d_No_add_36 (by assumption) (by assumption) ?_
    refine lda_n_4_0 (pc := 39) d_No_add_39 ?_
    refine g_No_21 (pc := 40) rfl d_No_add_40 (by assumption) ?_
    refine ldi_n_4_3 (pc := 43) d_No_add_43 ?_
    rw [e1 _ _ _ 2 (by decide), e1 _ _ _ 1 (by decide), hk]
    refine r_iast (pc := 44) d_No_add_44 (by assumption) (hin) ?_
    refine lda_n_4_0 (pc := 45) d_No_add_45 ?_
    refine r_dup (pc := 46) d_No_add_46 rfl ?_
    refine g_No_21 (pc := 47) rfl d_No_add_47 (by assumption) ?_
    rw [e1 _ _ _ 3 (by decide), e1 _ _ _ 2 (by decide), e1 _ _ _ 1 (by decide), hk, qcl (by omega)]
    refine r_iconst (pc := 50) (v := 1) d_No_add_50 rfl ?_
    refine r_iadd (pc := 51) d_No_add_51 ?_
    refine p_No_21 (pc := 52) rfl d_No_add_52 (by assumption) ?_
    refine lda_n_4_0 (pc := 55) d_No_add_55 ?_
    refine g_No_21 (pc := 56) rfl d_No_add_56 (by assumption) ?_
    rw [qup_at, q1]
    exact r_iret d_No_add_59 rfl (by omega) (by omega) (⟨rfl, rfl, rfl, rfl⟩)
  · have hge : ¬ k < n := fun h => c9 (show nI k < nI n from nI_lt h (by omega))
    rw [if_neg hge, if_neg hge]
    refine r_bipush (pc := 12) (v := (-4)) d_No_add_12 rfl ?_
    refine r_iret d_No_add_14 rfl (by omega) (by omega) ?_
    exact ⟨rfl, rfl, rfl, rfl⟩
def qnbec (I : qI) (o q k : Nat) : qI := qfil3 (qup I o 3 (nI k)) o k (I (q + 1)) (I (q + 2)) (I (q + 3))
theorem qmin_nI {a b : Nat} (ha : a < 2 ^ 31) (hb : b < 2 ^ 31) : qmin (nI a) (nI b) = nI (min a b) := by
  unfold qmin
  by_cases h : b < a
  · rw [if_pos (nI_lt h ha), Nat.min_eq_right (by omega)]
  · rw [if_neg (nI_nlt (by omega) hb), Nat.min_eq_left (by omega)]
theorem qmax_nI {a b : Nat} (ha : a < 2 ^ 31) (hb : b < 2 ^ 31) : qmax (nI a) (nI b) = nI (max a b) := by
  unfold qmax
  by_cases h : a < b
  · rw [if_pos (nI_lt h hb), Nat.max_eq_right (by omega)]
  · rw [if_neg (nI_nlt (by omega) ha), Nat.max_eq_left (by omega)]
theorem c_No_becomes {o q n k : Nat} (hN : isNo S o n) (hQ : isNo S q n) (hk : I q 3 = nI k) (hkn : k ≤ n) (hn : n < 1000) (hd : q + 3 < o ∨ o + 3 < q) : qMet E y_No_becomes b_No_becomes 3 none 1 0 0 [.ref (qb E + o), .ref (qb E + q)] S I J (fun v S' I' J' => v = none ∧ S = S' ∧ I' = qnbec I o q k ∧ J = J') := by
  obtain ⟨hT, hA1, hA2, hA3, hR0, hR1, hR2⟩ := hN
  obtain ⟨gT, gA1, gA2, gA3, gR0, gR1, gR2⟩ := hQ
  refine qMet.of (L := [some (.ref (qb E + o)), some (.ref (qb E + q)), none]) (by decide +kernel) (Nat.le_of_ble_eq_true rfl) rfl ?_
  refine lda_n_3_0 (pc := 0) d_No_becomes_0 ?_
  refine lda_n_3_0 (pc := 1) d_No_becomes_1 ?_
  refine g_No_9 (pc := 2) rfl d_No_becomes_2 (by assumption) (by assumption) ?_
  refine r_alen (pc := 5) d_No_becomes_5 (by assumption) (by decide) (by decide) rfl ?_
  refine lda_n_3_1 (pc := 6) d_No_becomes_6 ?_
  refine g_No_21 (pc := 7) rfl d_No_becomes_7 (by assumption) ?_
  rw [hk]
  refine r_callS (pc := 10) (As := [.int (nI n), .int (nI k)]) k_No_25 sw_jM_min rfl (by decide) d_No_becomes_10 (c_min _ _) rfl (Nat.le_of_ble_eq_true rfl) (by omega) (by omega) (by omega) (fun v S' I' J' hq => ?_)
  obtain ⟨rfl, rfl, rfl, rfl⟩ := hq
  rw [qmin_nI (by omega) (by omega), Nat.min_eq_right hkn]
  refine p_No_21 (pc := 13) rfl d_No_becomes_13 (by assumption) ?_
  refine r_iconst (pc := 16) (v := 0) d_No_becomes_16 rfl ?_
  refine sti_n_3_2 (pc := 17) d_No_becomes_17 rfl ?_
  have key := qfor (P := fun i => qW E y_No_becomes b_No_becomes none 1 0 0 (fun v S' I' J' => v = none ∧ S = S' ∧ I' = qnbec I o q k ∧ J = J') 0 0 18 [some (.ref (qb E + o)), some (.ref (qb E + q)), some (.int (nI i))] [] S (qfil3 (qup I o 3 (nI k)) o i (I (q + 1)) (I (q + 2)) (I (q + 3))) J) k ?_ ?_ 0 (by omega)
  · rw [qfil3_0] at key; exact key
  · refine ldi_n_3_2 (pc := 18) d_No_becomes_18 ?_
    refine lda_n_3_0 (pc := 19) d_No_becomes_19 ?_
    refine g_No_21 (pc := 20) rfl d_No_becomes_20 (by assumption) ?_
    rw [qfil3_o (by omega) (by omega) (by omega), qup_at]
    refine r_icmp_ge (pc := 23) (tgt := 68) d_No_becomes_23 (by decide) (fun c => ?_) (fun c => ?_)
    · exact r_vret d_No_becomes_68 rfl (by omega) (by omega) (⟨rfl, rfl, rfl, rfl⟩)
    · exact absurd (nI_le (Nat.le_refl _) (by omega)) c
  · intro i hi ih
    have hin : vp_in (nI i) n := vp_in_nI (by omega) (by omega)
    refine ldi_n_3_2 (pc := 18) d_No_becomes_18 ?_
    refine lda_n_3_0 (pc := 19) d_No_becomes_19 ?_
    refine g_No_21 (pc := 20) rfl d_No_becomes_20 (by assumption) ?_
    rw [qfil3_o (by omega) (by omega) (by omega), qup_at]
    refine r_icmp_ge (pc := 23) (tgt := 68) d_No_becomes_23 (by decide) (fun c => ?_) (fun c => ?_)
    · exact absurd c (nI_ge hi (by omega))
    · have r : ∀ i2, 1 ≤ i2 → i2 ≤ 3 → ∀ M : qI, M = qfil3 (qup I o 3 (nI k)) o i (I (q + 1)) (I (q + 2)) (I (q + 3)) → M (q + i2) = I (q + i2) := by
        intro i2 h1 h2 M hM
        rw [hM, qfil3_o (by omega) (by omega) (by omega), qup_row (by omega)]
      refine lda_n_3_0 (pc := 26) d_No_becomes_26 ?_
      refine g_No_9 (pc := 27) rfl d_No_becomes_27 (by assumption) (by assumption) ?_
      refine ldi_n_3_2 (pc := 30) d_No_becomes_30 ?_
      refine lda_n_3_1 (pc := 31) d_No_becomes_31 ?_
      refine g_No_9 (pc := 32) rfl d_No_becomes_32 (by assumption) (by assumption) ?_
      refine ldi_n_3_2 (pc := 35) d_No_becomes_35 ?_
      refine r_iald (pc := 36) d_No_becomes_36 (by assumption) (hin) ?_
      refine r_iast (pc := 37) d_No_becomes_37 (by assumption) (hin) ?_
      refine lda_n_3_0 (pc := 38) d_No_becomes_38 ?_
      refine g_No_15 (pc := 39) rfl d_No_becomes_39 (by assumption) (by assumption) ?_
      refine ldi_n_3_2 (pc := 42) d_No_becomes_42 ?_
      refine lda_n_3_1 (pc := 43) d_No_becomes_43 ?_
      refine g_No_15 (pc := 44) rfl d_No_becomes_44 (by assumption) (by assumption) ?_
      refine ldi_n_3_2 (pc := 47) d_No_becomes_47 ?_
      refine r_iald (pc := 48) d_No_becomes_48 (by assumption) (hin) ?_
      refine r_iast (pc := 49) d_No_becomes_49 (by assumption) (hin) ?_
      refine lda_n_3_0 (pc := 50) d_No_becomes_50 ?_
      refine g_No_18 (pc := 51) rfl d_No_becomes_51 (by assumption) (by assumption) ?_
      refine ldi_n_3_2 (pc := 54) d_No_becomes_54 ?_
      refine lda_n_3_1 (pc := 55) d_No_becomes_55 ?_
      refine g_No_18 (pc := 56) rfl d_No_becomes_56 (by assumption) (by assumption) ?_
      refine ldi_n_3_2 (pc := 59) d_No_becomes_59 ?_
      refine r_iald (pc := 60) d_No_becomes_60 (by assumption) (hin) ?_
      refine r_iast (pc := 61) d_No_becomes_61 (by assumption) (hin) ?_
      rw [qcl (by omega), qup_o (show q + 2 ≠ o + 1 by omega), qup_o (show q + 3 ≠ o + 2 by omega), qup_o (show q + 3 ≠ o + 1 by omega), r 1 (by decide) (by decide) _ rfl, r 2 (by decide) (by decide) _ rfl, r 3 (by decide) (by decide) _ rfl, qfil3_s]
      refine inc_3_2 (pc := 62) (w := 1) d_No_becomes_62 rfl rfl ?_
      refine r_goto (pc := 65) (tgt := 18) d_No_becomes_65 (by decide) ?_
      rw [q1]
      exact ih
theorem c_Ta_init {o : Nat} (hT : qT S o 7) (hz : qZ S I J) : qMet E y_Ta_init b_Ta_init 1 none 1 1 60 [.ref (qb E + o)] S I J (fun v S' I' J' => v = none ∧ S' = qal S o 2 12 60 ∧ I' = qup I o 0 (-1) ∧ J = J') := by
  have hz2 : qZ S (qup I o 0 (-1)) J := hz.up hT.1
  refine qMet.of (L := [some (.ref (qb E + o))]) (by decide +kernel) (Nat.le_of_ble_eq_true rfl) rfl ?_
  refine lda_n_1_0 (pc := 0) d_Ta_init_0 ?_
  refine r_objInit (pc := 1) ml_Ta_3 im_objInit cw_objInit d_Ta_init_1 (by omega) (Nat.le_of_ble_eq_true rfl) ?_
  refine lda_n_1_0 (pc := 4) d_Ta_init_4 ?_
  refine r_iconst (pc := 5) (v := (-1)) d_Ta_init_5 rfl ?_
  refine p_Ta_11 (pc := 6) rfl d_Ta_init_6 (by assumption) ?_
  refine lda_n_1_0 (pc := 9) d_Ta_init_9 ?_
  refine r_bipush (pc := 10) (v := 60) d_Ta_init_10 rfl ?_
  refine r_newaG (pc := 12) (k := 12) (n' := 60) (by decide) (by decide) rfl d_Ta_init_12 ac_long (by decide) rfl (by decide) (by omega) (by omega) ?_
  rw [hz2.i, hz2.j]
  have hT := hT.push (k2 := 12) (n := 60)
  refine p_Ta_15 (pc := 14) rfl rfl d_Ta_init_14 (by assumption) ?_
  exact r_vret d_Ta_init_17 rfl (by omega) (by omega) (⟨rfl, rfl, rfl, rfl⟩)
theorem c_Ta_becomes {o : Nat} {a b : Int32} (hM : isTa S o) : qMet E y_Ta_becomes b_Ta_becomes 4 none 0 0 0 [.ref (qb E + o), .int a, .int b] S I J (fun r S' I' J' => r = none ∧ S = S' ∧ I' = qup (qup I o 0 a) o 1 b ∧ J' = qfilJ J (o + 1) 60 (fun _ => 0)) := by
  obtain ⟨hT, hA, hR⟩ := hM
  refine qMet.of (L := [some (.ref (qb E + o)), some (.int a), some (.int b), none]) (by decide +kernel) (Nat.le_of_ble_eq_true rfl) rfl ?_
  refine lda_n_4_0 (pc := 0) d_Ta_becomes_0 ?_
  refine ldi_n_4_1 (pc := 1) d_Ta_becomes_1 ?_
  refine p_Ta_11 (pc := 2) rfl d_Ta_becomes_2 (by assumption) ?_
  refine lda_n_4_0 (pc := 5) d_Ta_becomes_5 ?_
  refine ldi_n_4_2 (pc := 6) d_Ta_becomes_6 ?_
  refine p_Ta_19 (pc := 7) rfl d_Ta_becomes_7 (by assumption) ?_
  refine r_iconst (pc := 10) (v := 0) d_Ta_becomes_10 rfl ?_
  refine sti_n_4_3 (pc := 11) d_Ta_becomes_11 rfl ?_
  generalize qup (qup I o 0 a) o 1 b = I0
  have key := qfor (P := fun k => qW E y_Ta_becomes b_Ta_becomes none 0 0 0 (fun r S' I' J' => r = none ∧ S = S' ∧ I' = I0 ∧ J' = qfilJ J (o + 1) 60 (fun _ => 0)) 0 0 12 [some (.ref (qb E + o)), some (.int a), some (.int b), some (.int (nI k))] [] S I0 (qfilJ J (o + 1) k (fun _ => 0))) 60 ?_ ?_ 0 (by omega)
  · rw [qfilJ_0] at key; exact key
  · refine ldi_n_4_3 (pc := 12) d_Ta_becomes_12 ?_
    refine r_bipush (pc := 13) (v := 60) d_Ta_becomes_13 rfl ?_
    refine r_icmp_ge (pc := 15) (tgt := 31) d_Ta_becomes_15 (by decide) (fun c => ?_) (fun c => ?_)
    · exact r_vret d_Ta_becomes_31 rfl (by omega) (by omega) (⟨rfl, rfl, rfl, rfl⟩)
    · exact absurd (by decide) c
  · intro k hk ih
    refine ldi_n_4_3 (pc := 12) d_Ta_becomes_12 ?_
    refine r_bipush (pc := 13) (v := 60) d_Ta_becomes_13 rfl ?_
    refine r_icmp_ge (pc := 15) (tgt := 31) d_Ta_becomes_15 (by decide) (fun c => ?_) (fun c => ?_)
    · exact absurd (show nI 60 ≤ nI k from c) (nI_ge hk (by omega))
    · refine lda_n_4_0 (pc := 18) d_Ta_becomes_18 ?_
      refine g_Ta_15 (pc := 19) rfl d_Ta_becomes_19 (by assumption) (by assumption) ?_
      refine ldi_n_4_3 (pc := 22) d_Ta_becomes_22 ?_
      refine r_lconst (pc := 23) (v := 0) d_Ta_becomes_23 rfl ?_
      refine r_last (pc := 24) d_Ta_becomes_24 (by assumption) (by first | assumption | exact vp_in_nI (by omega) (by omega) | (unfold vp_in; decide)) ?_
      refine inc_4_3 (pc := 25) (w := 1) d_Ta_becomes_25 rfl rfl ?_
      refine r_goto (pc := 28) (tgt := 12) d_Ta_becomes_28 (by decide) ?_
      rw [qcl (by omega), qfilJ_s (f := fun _ => 0), q1]
      exact ih
/-- what an item of a sort keeps of a long -/
def qitem (s : Int32) (v : Int64) : Int64 := if s = 0 then v.toInt32.toInt8.toInt32.toInt64 else if s = 1 then v.toInt32.toInt16.toInt32.toInt64 else if s = 2 then v.toInt32.toInt64 else if s = 3 then v else if v = 0 then 0 else 1
theorem qcmp_eq {a b : Int64} : lg_cmp a b = 0 ↔ a = b := by
  unfold lg_cmp
  by_cases h : a > b
  · rw [if_pos h]
    exact ⟨fun q => absurd q (by decide), fun q => absurd h (by rw [q]; exact fun z => Int64.lt_irrefl z)⟩
  · rw [if_neg h]
    by_cases h2 : a = b
    · simp [h2]
    · simp [h2]
theorem qout4 {x : Int32} {n : Nat} (hn : n < 100) (h : ∀ k : Nat, k ≤ n → x ≠ nI k) : x.toInt < 0 ∨ (n : Int) < x.toInt := by
  by_cases h0 : x < 0
  · left; simpa using Int32.lt_iff_toInt_lt.mp h0
  · obtain ⟨j, hj, e⟩ := nI_of h0
    right
    rw [e, nI_toInt hj]
    have : ¬ j ≤ n := fun q => h j q e
    omega
theorem c_Ta_asItem {o : Nat} {v : Int64} (hT : qT S o 7) : qMet E y_Ta_asItem b_Ta_asItem 3 (some .long) 1 0 0 [.ref (qb E + o), .long v] S I J (qPl S I J (qitem (I o 0) v)) := by
  refine qMet.of (L := [some (.ref (qb E + o)), some (.long v), none]) (by decide +kernel) (Nat.le_of_ble_eq_true rfl) rfl ?_
  refine lda_n_3_0 (pc := 0) d_Ta_asItem_0 ?_
  refine g_Ta_11 (pc := 1) rfl d_Ta_asItem_1 (by assumption) ?_
  unfold qitem
  by_cases k0 : I o 0 = 0
  · rw [k0]
    refine r_tableIn (pc := 4) (off := 32) (tgt := 36) d_Ta_asItem_4 (by decide) (by decide) (by decide +kernel) (by decide) ?_
    refine ldl_n_3_1 (pc := 36) d_Ta_asItem_36 ?_
    refine r_l2i (pc := 37) d_Ta_asItem_37 ?_
    refine r_i2b (pc := 38) d_Ta_asItem_38 ?_
    refine r_i2l (pc := 39) d_Ta_asItem_39 ?_
    refine r_lret d_Ta_asItem_40 rfl (by omega) (by omega) ?_
    exact ⟨rfl, rfl, rfl, rfl⟩
  rw [if_neg k0]
  by_cases k1 : I o 0 = 1
  · rw [k1]
    refine r_tableIn (pc := 4) (off := 37) (tgt := 41) d_Ta_asItem_4 (by decide) (by decide) (by decide +kernel) (by decide) ?_
    refine ldl_n_3_1 (pc := 41) d_Ta_asItem_41 ?_
    refine r_l2i (pc := 42) d_Ta_asItem_42 ?_
    refine r_i2s (pc := 43) d_Ta_asItem_43 ?_
    refine r_i2l (pc := 44) d_Ta_asItem_44 ?_
    refine r_lret d_Ta_asItem_45 rfl (by omega) (by omega) ?_
    exact ⟨rfl, rfl, rfl, rfl⟩
  rw [if_neg k1]
  by_cases k2 : I o 0 = 2
  · rw [k2]
    refine r_tableIn (pc := 4) (off := 42) (tgt := 46) d_Ta_asItem_4 (by decide) (by decide) (by decide +kernel) (by decide) ?_
    refine ldl_n_3_1 (pc := 46) d_Ta_asItem_46 ?_
    refine r_l2i (pc := 47) d_Ta_asItem_47 ?_
    refine r_i2l (pc := 48) d_Ta_asItem_48 ?_
    refine r_lret d_Ta_asItem_49 rfl (by omega) (by omega) ?_
    exact ⟨rfl, rfl, rfl, rfl⟩
  rw [if_neg k2]
  by_cases k3 : I o 0 = 3
  · rw [k3]
    refine r_tableIn (pc := 4) (off := 46) (tgt := 50) d_Ta_asItem_4 (by decide) (by decide) (by decide +kernel) (by decide) ?_
    refine ldl_n_3_1 (pc := 50) d_Ta_asItem_50 ?_
    refine r_lret d_Ta_asItem_51 rfl (by omega) (by omega) ?_
    exact ⟨rfl, rfl, rfl, rfl⟩
  rw [if_neg k3]
  have hout := qout4 (x := I o 0) (n := 3) (by decide) (fun k hk => by
    have : k = 0 ∨ k = 1 ∨ k = 2 ∨ k = 3 := by omega
    rcases this with rfl | rfl | rfl | rfl <;> assumption)
  refine r_tableOut (pc := 4) (tgt := 52) d_Ta_asItem_4 (hout) (by decide) ?_
  refine ldl_n_3_1 (pc := 52) d_Ta_asItem_52 ?_
  refine r_lconst (pc := 53) (v := 0) d_Ta_asItem_53 rfl ?_
  refine r_lcmp (pc := 54) d_Ta_asItem_54 ?_
  refine r_if_eq (pc := 55) (tgt := 62) d_Ta_asItem_55 (by decide) (fun c => ?_) (fun c => ?_)
  · rw [qcmp_eq] at c
    rw [if_pos c]
    refine r_iconst (pc := 62) (v := 0) d_Ta_asItem_62 rfl ?_
    refine r_callSN (pc := 63) (As := [.int 0]) k_Ta_22 sw_On_bit rfl (by decide) d_Ta_asItem_63 (c_On_bit 0) rfl (Nat.le_of_ble_eq_true rfl) (by omega) (by omega) (by omega) (fun v S' I' J' hq => ?_)
    obtain ⟨rfl, rfl, rfl, rfl⟩ := hq
    refine r_i2l (pc := 66) d_Ta_asItem_66 ?_
    refine r_lret d_Ta_asItem_67 rfl (by omega) (by omega) ?_
    exact ⟨rfl, rfl, rfl, rfl⟩
  · rw [qcmp_eq] at c
    rw [if_neg c]
    refine r_iconst (pc := 58) (v := 1) d_Ta_asItem_58 rfl ?_
    refine r_goto (pc := 59) (tgt := 63) d_Ta_asItem_59 (by decide) ?_
    refine r_callSN (pc := 63) (As := [.int 1]) k_Ta_22 sw_On_bit rfl (by decide) d_Ta_asItem_63 (c_On_bit 1) rfl (Nat.le_of_ble_eq_true rfl) (by omega) (by omega) (by omega) (fun v S' I' J' hq => ?_)
    obtain ⟨rfl, rfl, rfl, rfl⟩ := hq
    refine r_i2l (pc := 66) d_Ta_asItem_66 ?_
    refine r_lret d_Ta_asItem_67 rfl (by omega) (by omega) ?_
    exact ⟨rfl, rfl, rfl, rfl⟩
def qholds (z i n : Int32) : Int32 := if qwithin n 0 z = 0 then 0 else qwithin i 0 (z - n)
theorem c_Ta_holds {o : Nat} {i n : Int32} (hT : qT S o 7) : qMet E y_Ta_holds b_Ta_holds 3 (some .boolean) 1 0 0 [.ref (qb E + o), .int i, .int n] S I J (qPi S I J (qholds (I o 1) i n)) := by
  refine qMet.of (L := [some (.ref (qb E + o)), some (.int i), some (.int n)]) (by decide +kernel) (Nat.le_of_ble_eq_true rfl) rfl ?_
  refine ldi_n_3_2 (pc := 0) d_Ta_holds_0 ?_
  refine r_iconst (pc := 1) (v := 0) d_Ta_holds_1 rfl ?_
  refine lda_n_3_0 (pc := 2) d_Ta_holds_2 ?_
  refine g_Ta_19 (pc := 3) rfl d_Ta_holds_3 (by assumption) ?_
  refine r_callSN (pc := 6) (As := [.int n, .int 0, .int (I o 1)]) k_Ta_26 sw_On_within rfl (by decide) d_Ta_holds_6 (c_On_within _ _ _) rfl (Nat.le_of_ble_eq_true rfl) (by omega) (by omega) (by omega) (fun v S' I' J' hq => ?_)
  obtain ⟨rfl, rfl, rfl, rfl⟩ := hq
  unfold qholds
  refine r_if_eq (pc := 9) (tgt := 30) d_Ta_holds_9 (by decide) (fun c => ?_) (fun c => ?_)
  · rw [if_pos c]
    refine r_iconst (pc := 30) (v := 0) d_Ta_holds_30 rfl ?_
    refine r_nret d_Ta_holds_31 rfl (qbool_n (by first | exact Or.inl rfl | exact Or.inr rfl | assumption | exact qwithin_b | exact qbit_b)) (by omega) (by omega) ?_
    exact ⟨rfl, rfl, rfl, rfl⟩
  · rw [if_neg c]
    refine ldi_n_3_1 (pc := 12) d_Ta_holds_12 ?_
    refine r_iconst (pc := 13) (v := 0) d_Ta_holds_13 rfl ?_
    refine lda_n_3_0 (pc := 14) d_Ta_holds_14 ?_
    refine g_Ta_19 (pc := 15) rfl d_Ta_holds_15 (by assumption) ?_
    refine ldi_n_3_2 (pc := 18) d_Ta_holds_18 ?_
    refine r_isub (pc := 19) d_Ta_holds_19 ?_
    refine r_callSN (pc := 20) (As := [.int i, .int 0, .int (I o 1 - n)]) k_Ta_26 sw_On_within rfl (by decide) d_Ta_holds_20 (c_On_within _ _ _) rfl (Nat.le_of_ble_eq_true rfl) (by omega) (by omega) (by omega) (fun v S' I' J' hq => ?_)
    obtain ⟨rfl, rfl, rfl, rfl⟩ := hq
    refine r_if_eq (pc := 23) (tgt := 30) d_Ta_holds_23 (by decide) (fun c2 => ?_) (fun c2 => ?_)
    · rw [c2]
      refine r_iconst (pc := 30) (v := 0) d_Ta_holds_30 rfl ?_
      refine r_nret d_Ta_holds_31 rfl (qbool_n (by first | exact Or.inl rfl | exact Or.inr rfl | assumption | exact qwithin_b | exact qbit_b)) (by omega) (by omega) ?_
      exact ⟨rfl, rfl, rfl, rfl⟩
    · have e : qwithin i 0 (I o 1 - n) = 1 := by rcases (qwithin_b (n := i) (a := 0) (b := I o 1 - n)) with h | h
                                                 · exact absurd h c2
                                                 · exact h
      rw [e]
      refine r_iconst (pc := 26) (v := 1) d_Ta_holds_26 rfl ?_
      refine r_goto (pc := 27) (tgt := 31) d_Ta_holds_27 (by decide) ?_
      refine r_nret d_Ta_holds_31 rfl (qbool_n (by first | exact Or.inl rfl | exact Or.inr rfl | assumption | exact qwithin_b | exact qbit_b)) (by omega) (by omega) ?_
      exact ⟨rfl, rfl, rfl, rfl⟩
end QC2
