/-! the class's small parts -/
def qal (S : qSh) (o j k n : Nat) : qSh := qsetR (qpush S k n) o j (some (qN S))
def qZ (S : qSh) (I : qI) (J : qJ) : Prop := ∀ a, qN S ≤ a → (I a = fun _ => 0) ∧ (J a = fun _ => 0)
def qfil (I : qI) (a n : Nat) (f : Nat → Int32) : qI := fun a' j => if a' = a ∧ j < n then f j else I a' j
def qfilJ (J : qJ) (a n : Nat) (f : Nat → Int64) : qJ := fun a' j => if a' = a ∧ j < n then f j else J a' j
theorem qfil_0 {I : qI} {a : Nat} {f : Nat → Int32} : qfil I a 0 f = I := by funext a' j; simp [qfil]
theorem qfilJ_0 {J : qJ} {a : Nat} {f : Nat → Int64} : qfilJ J a 0 f = J := by funext a' j; simp [qfilJ]
theorem qfil_s {I : qI} {a k : Nat} {f : Nat → Int32} : qup (qfil I a k f) a k (f k) = qfil I a (k + 1) f := by
  funext a' j
  unfold qup qfil
  by_cases h : a' = a
  · by_cases h2 : j = k
    · simp [h, h2]
    · by_cases h3 : j < k
      · simp [h, h2, h3, Nat.lt_succ_of_lt h3]
      · have : ¬ j < k + 1 := by omega
        simp [h, h2, h3, this]
  · simp [h]
theorem qfilJ_s {J : qJ} {a k : Nat} {f : Nat → Int64} : qup (qfilJ J a k f) a k (f k) = qfilJ J a (k + 1) f := by
  funext a' j
  unfold qup qfilJ
  by_cases h : a' = a
  · by_cases h2 : j = k
    · simp [h, h2]
    · by_cases h3 : j < k
      · simp [h, h2, h3, Nat.lt_succ_of_lt h3]
      · have : ¬ j < k + 1 := by omega
        simp [h, h2, h3, this]
  · simp [h]
theorem qfil_o {I : qI} {a n a' : Nat} {f : Nat → Int32} (h : a' ≠ a) : qfil I a n f a' = I a' := by funext j; simp [qfil, h]
section Z
variable {S : qSh} {I : qI} {J : qJ}
theorem qZ.i (h : qZ S I J) : qzI S I = I := by
  funext a; unfold qzI; split
  · rename_i e; subst e; exact (h _ (Nat.le_refl _)).1.symm
  · rfl
theorem qZ.j (h : qZ S I J) : qzJ S J = J := by
  funext a; unfold qzJ; split
  · rename_i e; subst e; exact (h _ (Nat.le_refl _)).2.symm
  · rfl
theorem qZ.push {k n : Nat} (h : qZ S I J) : qZ (qpush S k n) I J := fun a ha => h a (by have : qN S + 1 ≤ a := ha; omega)
theorem qZ.setR {o j : Nat} {x : Option Nat} (h : qZ S I J) : qZ (qsetR S o j x) I J := h
theorem qZ.al {o j k n : Nat} (h : qZ S I J) : qZ (qal S o j k n) I J := qZ.push (k := k) (n := n) h
theorem qZ.up {o j : Nat} {x : Int32} (h : qZ S I J) (ho : o < qN S) : qZ S (qup I o j x) J := fun a ha => ⟨by rw [qup_row (by omega)]; exact (h a ha).1, (h a ha).2⟩
theorem qT.push {o k k2 n : Nat} (h : qT S o k) : qT (qpush S k2 n) o k := ⟨Nat.lt_succ_of_lt h.1, by have := h.1; unfold qpush qK; simp only; rw [if_neg (by omega)]; exact h.2⟩
theorem qT.al {o k o2 j k2 n : Nat} (h : qT S o k) : qT (qal S o2 j k2 n) o k := qT.push (k2 := k2) (n := n) h
theorem qT.new {k n : Nat} : qT (qpush S k n) (qN S) k := ⟨Nat.lt_succ_self _, by simp [qpush, qK]⟩
theorem qAr.new {k n : Nat} : qAr (qpush S k n) (qN S) k n := ⟨Nat.lt_succ_self _, by simp [qpush, qK], by simp [qpush, qL]⟩
end Z
section QC1
variable {E : qE} {S : qSh} {I : qI} {J : qJ}
theorem c_Mo_init {o : Nat} {n : Int32} (hT : qT S o 2) (hz : qZ S I J) : qMet E y_Mo_init b_Mo_init 2 none 1 1 4 [.ref (qb E + o), .int n] S I J (fun v S' I' J' => v = none ∧ S' = qal S o 7 11 4 ∧ I' = qup I o 0 n ∧ J = J') := by
  refine qMet.of (L := [some (.ref (qb E + o)), some (.int n)]) (by decide +kernel) (Nat.le_of_ble_eq_true rfl) rfl ?_
  refine lda_n_2_0 (pc := 0) d_Mo_init_0 ?_
  refine r_objInit (pc := 1) ml_Mo_3 im_objInit cw_objInit d_Mo_init_1 (by omega) (Nat.le_of_ble_eq_true rfl) ?_
  refine lda_n_2_0 (pc := 4) d_Mo_init_4 ?_
  refine r_iconst (pc := 5) (v := 4) d_Mo_init_5 rfl ?_
  refine r_newaG (pc := 6) (k := 11) (n' := 4) (by decide) (by decide) rfl d_Mo_init_6 ac_int (by decide) rfl (by decide) (by omega) (by omega) ?_
  rw [hz.i, hz.j]
  have hT := hT.push (k2 := 11) (n := 4)
  refine p_Mo_9 (pc := 8) rfl rfl d_Mo_init_8 (by assumption) ?_
  change qW _ _ _ _ _ _ _ _ _ _ _ _ _ (qal S o 7 11 4) _ _
  have hT : qT (qal S o 7 11 4) o 2 := hT
  refine lda_n_2_0 (pc := 11) d_Mo_init_11 ?_
  refine ldi_n_2_1 (pc := 12) d_Mo_init_12 ?_
  refine p_Mo_15 (pc := 13) rfl rfl d_Mo_init_13 (by assumption) ?_
  exact r_vret d_Mo_init_16 rfl (by omega) (by omega) (⟨rfl, rfl, rfl, rfl⟩)
def qcomes (I : qI) (o : Nat) (kd v g : Int32) : qI := qfil (qup (qup (qup (qup (qup (qup I o 1 kd) o 2 v) o 3 g) o 4 0) o 5 0) o 6 0) (o + 1) 4 (fun _ => 0)
theorem c_Mo_comes {o : Nat} {kd v g : Int32} (hM : isMo S o) : qMet E y_Mo_comes b_Mo_comes 5 none 0 0 0 [.ref (qb E + o), .int kd, .int v, .int g] S I J (fun r S' I' J' => r = none ∧ S = S' ∧ I' = qcomes I o kd v g ∧ J = J') := by
  obtain ⟨hT, hA, hR⟩ := hM
  refine qMet.of (L := [some (.ref (qb E + o)), some (.int kd), some (.int v), some (.int g), none]) (by decide +kernel) (Nat.le_of_ble_eq_true rfl) rfl ?_
  refine lda_n_5_0 (pc := 0) d_Mo_comes_0 ?_
  refine ldi_n_5_1 (pc := 1) d_Mo_comes_1 ?_
  refine p_Mo_19 (pc := 2) rfl d_Mo_comes_2 (by assumption) ?_
  refine lda_n_5_0 (pc := 5) d_Mo_comes_5 ?_
  refine ldi_n_5_2 (pc := 6) d_Mo_comes_6 ?_
  refine p_Mo_22 (pc := 7) rfl d_Mo_comes_7 (by assumption) ?_
  refine lda_n_5_0 (pc := 10) d_Mo_comes_10 ?_
  refine ldi_n_5_3 (pc := 11) d_Mo_comes_11 ?_
  refine p_Mo_25 (pc := 12) rfl d_Mo_comes_12 (by assumption) ?_
  refine lda_n_5_0 (pc := 15) d_Mo_comes_15 ?_
  refine r_iconst (pc := 16) (v := 0) d_Mo_comes_16 rfl ?_
  refine p_Mo_28 (pc := 17) rfl d_Mo_comes_17 (by assumption) ?_
  refine lda_n_5_0 (pc := 20) d_Mo_comes_20 ?_
  refine r_iconst (pc := 21) (v := 0) d_Mo_comes_21 rfl ?_
  refine p_Mo_31 (pc := 22) rfl d_Mo_comes_22 (by assumption) ?_
  refine lda_n_5_0 (pc := 25) d_Mo_comes_25 ?_
  refine r_iconst (pc := 26) (v := 0) d_Mo_comes_26 rfl ?_
  refine p_Mo_34 (pc := 27) rfl d_Mo_comes_27 (by assumption) (by first | exact Or.inl rfl | exact Or.inr rfl | assumption) ?_
  refine r_iconst (pc := 30) (v := 0) d_Mo_comes_30 rfl ?_
  refine sti_5_4 (pc := 31) d_Mo_comes_31 rfl ?_
  unfold qcomes
  generalize qup (qup (qup (qup (qup (qup I o 1 kd) o 2 v) o 3 g) o 4 0) o 5 0) o 6 0 = I0
  have key := qfor (P := fun k => qW E y_Mo_comes b_Mo_comes none 0 0 0 (fun r S' I' J' => r = none ∧ S = S' ∧ I' = qfil I0 (o + 1) 4 (fun _ => 0) ∧ J = J') 0 0 33 [some (.ref (qb E + o)), some (.int kd), some (.int v), some (.int g), some (.int (nI k))] [] S (qfil I0 (o + 1) k (fun _ => 0)) J) 4 ?_ ?_ 0 (by omega)
  · rw [qfil_0] at key; exact key
  · refine ldi_5_4 (pc := 33) d_Mo_comes_33 ?_
    refine r_iconst (pc := 35) (v := 4) d_Mo_comes_35 rfl ?_
    refine r_icmp_ge (pc := 36) (tgt := 53) d_Mo_comes_36 (by decide) (fun c => ?_) (fun c => ?_)
    · exact r_vret d_Mo_comes_53 rfl (by omega) (by omega) (⟨rfl, rfl, rfl, rfl⟩)
    · exact absurd (by decide) c
  · intro k hk ih
    refine ldi_5_4 (pc := 33) d_Mo_comes_33 ?_
    refine r_iconst (pc := 35) (v := 4) d_Mo_comes_35 rfl ?_
    refine r_icmp_ge (pc := 36) (tgt := 53) d_Mo_comes_36 (by decide) (fun c => ?_) (fun c => ?_)
    · exact absurd (show nI 4 ≤ nI k from c) (nI_ge hk (by omega))
    · refine lda_n_5_0 (pc := 39) d_Mo_comes_39 ?_
      refine g_Mo_9 (pc := 40) rfl d_Mo_comes_40 (by assumption) (by assumption) ?_
      refine ldi_5_4 (pc := 43) d_Mo_comes_43 ?_
      refine r_iconst (pc := 45) (v := 0) d_Mo_comes_45 rfl ?_
      refine r_iast (pc := 46) d_Mo_comes_46 (by assumption) (by first | assumption | exact vp_in_nI (by omega) (by omega) | (unfold vp_in; decide)) ?_
      refine inc_5_4 (pc := 47) (w := 1) d_Mo_comes_47 rfl rfl ?_
      refine r_goto (pc := 50) (tgt := 33) d_Mo_comes_50 (by decide) ?_
      rw [qcl (by omega), qfil_s (f := fun _ => 0), q1]
      exact ih
def qbecomes (I : qI) (o q : Nat) : qI := qfil (qup (qup (qup (qup (qup (qup I o 1 (I q 1)) o 2 (I q 2)) o 3 (I q 3)) o 4 (I q 4)) o 5 (I q 5)) o 6 (I q 6)) (o + 1) 4 (I (q + 1))
theorem c_Mo_becomes {o q : Nat} (hM : isMo S o) (hQ : isMo S q) (h1 : q ≠ o) (h2 : q ≠ o + 1) (h3 : q + 1 ≠ o) (hb : qbool (I q 6)) : qMet E y_Mo_becomes b_Mo_becomes 3 none 0 0 0 [.ref (qb E + o), .ref (qb E + q)] S I J (fun r S' I' J' => r = none ∧ S = S' ∧ I' = qbecomes I o q ∧ J = J') := by
  obtain ⟨hT, hA, hR⟩ := hM
  obtain ⟨hT2, hA2, hR2⟩ := hQ
  refine qMet.of (L := [some (.ref (qb E + o)), some (.ref (qb E + q)), none]) (by decide +kernel) (Nat.le_of_ble_eq_true rfl) rfl ?_
  refine lda_n_3_0 (pc := 0) d_Mo_becomes_0 ?_
  refine lda_n_3_1 (pc := 1) d_Mo_becomes_1 ?_
  refine g_Mo_19 (pc := 2) rfl d_Mo_becomes_2 (by assumption) ?_
  refine p_Mo_19 (pc := 5) rfl d_Mo_becomes_5 (by assumption) ?_
  refine lda_n_3_0 (pc := 8) d_Mo_becomes_8 ?_
  refine lda_n_3_1 (pc := 9) d_Mo_becomes_9 ?_
  refine g_Mo_22 (pc := 10) rfl d_Mo_becomes_10 (by assumption) ?_
  refine p_Mo_22 (pc := 13) rfl d_Mo_becomes_13 (by assumption) ?_
  refine lda_n_3_0 (pc := 16) d_Mo_becomes_16 ?_
  refine lda_n_3_1 (pc := 17) d_Mo_becomes_17 ?_
  refine g_Mo_25 (pc := 18) rfl d_Mo_becomes_18 (by assumption) ?_
  refine p_Mo_25 (pc := 21) rfl d_Mo_becomes_21 (by assumption) ?_
  refine lda_n_3_0 (pc := 24) d_Mo_becomes_24 ?_
  refine lda_n_3_1 (pc := 25) d_Mo_becomes_25 ?_
  refine g_Mo_28 (pc := 26) rfl d_Mo_becomes_26 (by assumption) ?_
  refine p_Mo_28 (pc := 29) rfl d_Mo_becomes_29 (by assumption) ?_
  refine lda_n_3_0 (pc := 32) d_Mo_becomes_32 ?_
  refine lda_n_3_1 (pc := 33) d_Mo_becomes_33 ?_
  refine g_Mo_31 (pc := 34) rfl d_Mo_becomes_34 (by assumption) ?_
  refine p_Mo_31 (pc := 37) rfl d_Mo_becomes_37 (by assumption) ?_
  refine lda_n_3_0 (pc := 40) d_Mo_becomes_40 ?_
  refine lda_n_3_1 (pc := 41) d_Mo_becomes_41 ?_
  refine g_Mo_34 (pc := 42) rfl d_Mo_becomes_42 (by assumption) ?_
  simp only [qup_o h1]
  refine p_Mo_34 (pc := 45) rfl d_Mo_becomes_45 (by assumption) (hb) ?_
  refine r_iconst (pc := 48) (v := 0) d_Mo_becomes_48 rfl ?_
  refine sti_n_3_2 (pc := 49) d_Mo_becomes_49 rfl ?_
  unfold qbecomes
  generalize hI0 : qup (qup (qup (qup (qup (qup I o 1 (I q 1)) o 2 (I q 2)) o 3 (I q 3)) o 4 (I q 4)) o 5 (I q 5)) o 6 (I q 6) = I0
  have hrow : I0 (q + 1) = I (q + 1) := by rw [← hI0]; simp only [qup_row h3]
  have key := qfor (P := fun k => qW E y_Mo_becomes b_Mo_becomes none 0 0 0 (fun r S' I' J' => r = none ∧ S = S' ∧ I' = qfil I0 (o + 1) 4 (I (q + 1)) ∧ J = J') 0 0 50 [some (.ref (qb E + o)), some (.ref (qb E + q)), some (.int (nI k))] [] S (qfil I0 (o + 1) k (I (q + 1))) J) 4 ?_ ?_ 0 (by omega)
  · rw [qfil_0] at key; exact key
  · refine ldi_n_3_2 (pc := 50) d_Mo_becomes_50 ?_
    refine r_iconst (pc := 51) (v := 4) d_Mo_becomes_51 rfl ?_
    refine r_icmp_ge (pc := 52) (tgt := 73) d_Mo_becomes_52 (by decide) (fun c => ?_) (fun c => ?_)
    · exact r_vret d_Mo_becomes_73 rfl (by omega) (by omega) (⟨rfl, rfl, rfl, rfl⟩)
    · exact absurd (by decide) c
  · intro k hk ih
    refine ldi_n_3_2 (pc := 50) d_Mo_becomes_50 ?_
    refine r_iconst (pc := 51) (v := 4) d_Mo_becomes_51 rfl ?_
    refine r_icmp_ge (pc := 52) (tgt := 73) d_Mo_becomes_52 (by decide) (fun c => ?_) (fun c => ?_)
    · exact absurd (show nI 4 ≤ nI k from c) (nI_ge hk (by omega))
    · refine lda_n_3_0 (pc := 55) d_Mo_becomes_55 ?_
      refine g_Mo_9 (pc := 56) rfl d_Mo_becomes_56 (by assumption) (by assumption) ?_
      refine ldi_n_3_2 (pc := 59) d_Mo_becomes_59 ?_
      refine lda_n_3_1 (pc := 60) d_Mo_becomes_60 ?_
      refine g_Mo_9 (pc := 61) rfl d_Mo_becomes_61 (by assumption) (by assumption) ?_
      refine ldi_n_3_2 (pc := 64) d_Mo_becomes_64 ?_
      refine r_iald (pc := 65) d_Mo_becomes_65 (by assumption) (by first | assumption | exact vp_in_nI (by omega) (by omega) | (unfold vp_in; decide)) ?_
      refine r_iast (pc := 66) d_Mo_becomes_66 (by assumption) (by first | assumption | exact vp_in_nI (by omega) (by omega) | (unfold vp_in; decide)) ?_
      refine inc_3_2 (pc := 67) (w := 1) d_Mo_becomes_67 rfl rfl ?_
      refine r_goto (pc := 70) (tgt := 50) d_Mo_becomes_70 (by decide) ?_
      rw [qcl (by omega), qfil_o (show q + 1 ≠ o + 1 by omega), hrow, qfil_s, q1]
      exact ih
/-- PAIN by KIND -/
def qsaved (I : qI) (o : Nat) (x w : Int32) : Int32 := if w < I o 2 then x / 2 else x * 2
def qpainBy (I : qI) (o : Nat) (x d w : Int32) : Int32 :=
  if I o 1 = 1 then x + w else if I o 1 = 2 then x - w else if I o 1 = 3 then qsaved I o x w else if I o 1 = 4 then x + w + I o 2 else if I o 1 = 5 then (if d - d / 2 * 2 = 0 then x - w else 0) else if I o 1 = 6 then qsaved I o x w + I (o + 1) (qmod d 4).toNatClampNeg else x
theorem c_Mo_saved {o : Nat} {x w : Int32} (hM : isMo S o) : qMet E y_Mo_saved b_Mo_saved 3 (some .int) 0 0 0 [.ref (qb E + o), .int x, .int w] S I J (qPi S I J (qsaved I o x w)) := by
  obtain ⟨hT, hA, hR⟩ := hM
  refine qMet.of (L := [some (.ref (qb E + o)), some (.int x), some (.int w)]) (by decide +kernel) (Nat.le_of_ble_eq_true rfl) rfl ?_
  refine ldi_n_3_2 (pc := 0) d_Mo_saved_0 ?_
  refine lda_n_3_0 (pc := 1) d_Mo_saved_1 ?_
  refine g_Mo_22 (pc := 2) rfl d_Mo_saved_2 (by assumption) ?_
  refine r_icmp_ge (pc := 5) (tgt := 14) d_Mo_saved_5 (by decide) (fun c5 => ?_) (fun c5 => ?_)
  · refine ldi_n_3_1 (pc := 14) d_Mo_saved_14 ?_
    refine r_iconst (pc := 15) (v := 2) d_Mo_saved_15 rfl ?_
    refine r_imul (pc := 16) d_Mo_saved_16 ?_
    refine r_iret d_Mo_saved_17 rfl (by omega) (by omega) ?_
    exact ⟨by unfold qsaved; (first | rw [if_pos (by assumption)] | rw [if_neg (by assumption)] | rw [if_pos (Int32.not_le.mp (by assumption))] | rw [if_neg (Int32.not_lt.mpr (by assumption))] | rw [if_neg (Int32.not_le.mpr (by assumption))] | rw [if_pos (Int32.not_lt.mp (by assumption))]), rfl, rfl, rfl⟩
  · refine ldi_n_3_1 (pc := 8) d_Mo_saved_8 ?_
    refine r_iconst (pc := 9) (v := 2) d_Mo_saved_9 rfl ?_
    refine r_idiv (pc := 10) d_Mo_saved_10 (by decide) ?_
    refine r_goto (pc := 11) (tgt := 17) d_Mo_saved_11 (by decide) ?_
    refine r_iret d_Mo_saved_17 rfl (by omega) (by omega) ?_
    exact ⟨by unfold qsaved; (first | rw [if_pos (by assumption)] | rw [if_neg (by assumption)] | rw [if_pos (Int32.not_le.mp (by assumption))] | rw [if_neg (Int32.not_lt.mpr (by assumption))] | rw [if_neg (Int32.not_le.mpr (by assumption))] | rw [if_pos (Int32.not_lt.mp (by assumption))]), rfl, rfl, rfl⟩
theorem qxor4 {d : Nat} (h : d < 2 ^ 31) : 0 ≤ nI d ^^^ 4 := by
  have e : (nI d ^^^ 4).toBitVec = (nI d).toBitVec ^^^ 4#32 := rfl
  have hm : ((nI d).toBitVec ^^^ 4#32).msb = false := by
    have h2 : (nI d).toBitVec.msb = false := by
      rw [BitVec.msb_eq_decide, pk_tn (by omega)]
      exact decide_eq_false (by omega)
    rw [BitVec.msb_xor, h2]
    rfl
  rw [Int32.le_iff_toInt_le]
  show (0 : Int) ≤ (nI d ^^^ 4).toBitVec.toInt
  rw [e, BitVec.toInt_eq_toNat_of_msb hm]
  exact Int.natCast_nonneg _
theorem qmod4 {d : Nat} (h : d < 2 ^ 31) : qmod (nI d) 4 = nI (d % 4) := by
  unfold qmod
  rw [if_pos (qxor4 h)]
  exact pk_rem h (by decide) (by decide)
theorem c_Mo_painBy {o dd : Nat} {x d w : Int32} (hM : isMo S o) (hd : d = nI dd) (hdd : dd < 2 ^ 31) : qMet E y_Mo_painBy b_Mo_painBy 4 (some .int) 1 0 0 [.ref (qb E + o), .int x, .int d, .int w] S I J (qPi S I J (qpainBy I o x d w)) := by
  have hM0 := hM
  obtain ⟨hT, hA, hR⟩ := hM
  have h1 : vp_in (qmod d 4) 4 := by rw [hd, qmod4 hdd]; exact vp_in_nI (Nat.mod_lt _ (by decide)) (by decide)
  refine qMet.of (L := [some (.ref (qb E + o)), some (.int x), some (.int d), some (.int w)]) (by decide +kernel) (Nat.le_of_ble_eq_true rfl) rfl ?_
  refine lda_n_4_0 (pc := 0) d_Mo_painBy_0 ?_
  refine g_Mo_19 (pc := 1) rfl d_Mo_painBy_1 (by assumption) ?_
  unfold qpainBy
  by_cases k1 : I o 1 = 1
  · rw [k1]
    refine r_tableIn (pc := 4) (off := 40) (tgt := 44) d_Mo_painBy_4 (by decide) (by decide) (by decide +kernel) (by decide) ?_
    refine ldi_n_4_1 (pc := 44) d_Mo_painBy_44 ?_
    refine ldi_n_4_3 (pc := 45) d_Mo_painBy_45 ?_
    refine r_iadd (pc := 46) d_Mo_painBy_46 ?_
    refine r_iret d_Mo_painBy_47 rfl (by omega) (by omega) ?_
    exact ⟨rfl, rfl, rfl, rfl⟩
  rw [if_neg k1]
  by_cases k2 : I o 1 = 2
  · rw [k2]
    refine r_tableIn (pc := 4) (off := 44) (tgt := 48) d_Mo_painBy_4 (by decide) (by decide) (by decide +kernel) (by decide) ?_
    refine ldi_n_4_1 (pc := 48) d_Mo_painBy_48 ?_
    refine ldi_n_4_3 (pc := 49) d_Mo_painBy_49 ?_
    refine r_isub (pc := 50) d_Mo_painBy_50 ?_
    refine r_iret d_Mo_painBy_51 rfl (by omega) (by omega) ?_
    exact ⟨rfl, rfl, rfl, rfl⟩
  rw [if_neg k2]
  by_cases k3 : I o 1 = 3
  · rw [k3]
    refine r_tableIn (pc := 4) (off := 48) (tgt := 52) d_Mo_painBy_4 (by decide) (by decide) (by decide +kernel) (by decide) ?_
    refine lda_n_4_0 (pc := 52) d_Mo_painBy_52 ?_
    refine ldi_n_4_1 (pc := 53) d_Mo_painBy_53 ?_
    refine ldi_n_4_3 (pc := 54) d_Mo_painBy_54 ?_
    refine r_callV (pc := 55) (As := [.int x, .int w]) (k := 2) (N := 8) (T := T_Mo) k_Mo_38 im_Mo_saved se_Mo_saved rfl (by decide) rfl (by decide) d_Mo_painBy_55 (by assumption) (c_Mo_saved hM0) rfl (Nat.le_of_ble_eq_true rfl) (by omega) (by omega) (by omega) (fun v S' I' J' hq => ?_)
    obtain ⟨rfl, rfl, rfl, rfl⟩ := hq
    exact r_iret d_Mo_painBy_58 rfl (by omega) (by omega) (⟨rfl, rfl, rfl, rfl⟩)
  rw [if_neg k3]
  by_cases k4 : I o 1 = 4
  · rw [k4]
    refine r_tableIn (pc := 4) (off := 55) (tgt := 59) d_Mo_painBy_4 (by decide) (by decide) (by decide +kernel) (by decide) ?_
    refine ldi_n_4_1 (pc := 59) d_Mo_painBy_59 ?_
    refine ldi_n_4_3 (pc := 60) d_Mo_painBy_60 ?_
    refine r_iadd (pc := 61) d_Mo_painBy_61 ?_
    refine lda_n_4_0 (pc := 62) d_Mo_painBy_62 ?_
    refine g_Mo_22 (pc := 63) rfl d_Mo_painBy_63 (by assumption) ?_
    refine r_iadd (pc := 66) d_Mo_painBy_66 ?_
    refine r_iret d_Mo_painBy_67 rfl (by omega) (by omega) ?_
    exact ⟨rfl, rfl, rfl, rfl⟩
  rw [if_neg k4]
  by_cases k5 : I o 1 = 5
  · rw [k5]
    refine r_tableIn (pc := 4) (off := 64) (tgt := 68) d_Mo_painBy_4 (by decide) (by decide) (by decide +kernel) (by decide) ?_
    refine ldi_n_4_2 (pc := 68) d_Mo_painBy_68 ?_
    refine r_iconst (pc := 69) (v := 2) d_Mo_painBy_69 rfl ?_
    refine r_irem (pc := 70) d_Mo_painBy_70 (by decide) ?_
    refine r_if_ne (pc := 71) (tgt := 80) d_Mo_painBy_71 (by decide) (fun c => ?_) (fun c => ?_)
    · refine r_iconst (pc := 80) (v := 0) d_Mo_painBy_80 rfl ?_
      refine r_iret d_Mo_painBy_81 rfl (by omega) (by omega) ?_
      exact ⟨by rw [if_pos rfl, if_neg c], rfl, rfl, rfl⟩
    · refine ldi_n_4_1 (pc := 74) d_Mo_painBy_74 ?_
      refine ldi_n_4_3 (pc := 75) d_Mo_painBy_75 ?_
      refine r_isub (pc := 76) d_Mo_painBy_76 ?_
      refine r_goto (pc := 77) (tgt := 81) d_Mo_painBy_77 (by decide) ?_
      refine r_iret d_Mo_painBy_81 rfl (by omega) (by omega) ?_
      exact ⟨by rw [if_pos rfl, if_pos c], rfl, rfl, rfl⟩
  rw [if_neg k5]
  by_cases k6 : I o 1 = 6
  · rw [k6]
    refine r_tableIn (pc := 4) (off := 78) (tgt := 82) d_Mo_painBy_4 (by decide) (by decide) (by decide +kernel) (by decide) ?_
    refine lda_n_4_0 (pc := 82) d_Mo_painBy_82 ?_
    refine ldi_n_4_1 (pc := 83) d_Mo_painBy_83 ?_
    refine ldi_n_4_3 (pc := 84) d_Mo_painBy_84 ?_
    refine r_callV (pc := 85) (As := [.int x, .int w]) (k := 2) (N := 8) (T := T_Mo) k_Mo_38 im_Mo_saved se_Mo_saved rfl (by decide) rfl (by decide) d_Mo_painBy_85 (by assumption) (c_Mo_saved hM0) rfl (Nat.le_of_ble_eq_true rfl) (by omega) (by omega) (by omega) (fun v S' I' J' hq => ?_)
    obtain ⟨rfl, rfl, rfl, rfl⟩ := hq
    refine lda_n_4_0 (pc := 88) d_Mo_painBy_88 ?_
    refine g_Mo_9 (pc := 89) rfl d_Mo_painBy_89 (by assumption) (by assumption) ?_
    refine ldi_n_4_2 (pc := 92) d_Mo_painBy_92 ?_
    refine r_iconst (pc := 93) (v := 4) d_Mo_painBy_93 rfl ?_
    refine r_callS (pc := 94) (As := [.int d, .int 4]) k_Mo_42 sw_jM_floorMod rfl (by decide) d_Mo_painBy_94 (c_floorMod (by decide)) rfl (Nat.le_of_ble_eq_true rfl) (by omega) (by omega) (by omega) (fun v S' I' J' hq => ?_)
    obtain ⟨rfl, rfl, rfl, rfl⟩ := hq
    refine r_iald (pc := 97) d_Mo_painBy_97 (by assumption) (by first | assumption | exact vp_in_nI (by omega) (by omega) | (unfold vp_in; decide)) ?_
    refine r_iadd (pc := 98) d_Mo_painBy_98 ?_
    exact r_iret d_Mo_painBy_99 rfl (by omega) (by omega) (⟨rfl, rfl, rfl, rfl⟩)
  rw [if_neg k6]
  have hout : (I o 1).toInt < 1 ∨ 6 < (I o 1).toInt := by
    have f : ∀ z : Int32, I o 1 ≠ z → (I o 1).toInt ≠ z.toInt := fun z h q => h (Int32.toInt_inj.mp q)
    have g1 := f 1 k1; have g2 := f 2 k2; have g3 := f 3 k3; have g4 := f 4 k4; have g5 := f 5 k5; have g6 := f 6 k6
    simp at g1 g2 g3 g4 g5 g6
    omega
  refine r_tableOut (pc := 4) (tgt := 100) d_Mo_painBy_4 (hout) (by decide) ?_
  refine ldi_n_4_1 (pc := 100) d_Mo_painBy_100 ?_
  refine r_iret d_Mo_painBy_101 rfl (by omega) (by omega) ?_
  exact ⟨rfl, rfl, rfl, rfl⟩
end QC1
