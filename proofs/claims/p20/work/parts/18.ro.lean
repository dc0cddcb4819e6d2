/-! ROWS: safe, and what they tell of nobody -/
def qhurtAt (I : qI) (x k : Int32) : Int32 := if 6 * x + k < 0 then 0 else if 36 ≤ 6 * x + k then 0 else I 95 (6 * x + k).toNatClampNeg
/-- all rows but those of P are as they were -/
def qFr (P : Nat → Prop) (I I' : qI) : Prop := ∀ a, ¬ P a → I' a = I a
theorem qFr.rf {P : Nat → Prop} {I : qI} : qFr P I I := fun _ _ => rfl
theorem qFr.tr {P : Nat → Prop} {I I' I2 : qI} (h : qFr P I I') (h2 : qFr P I' I2) : qFr P I I2 := fun a ha => (h2 a ha).trans (h a ha)
theorem qFr.up {P : Nat → Prop} {I I' : qI} {a j : Nat} {x : Int32} (h : qFr P I I') (ha : P a) : qFr P I (qup I' a j x) := fun b hb => (qup_row (fun e => hb (by rw [e]; exact ha))).trans (h b hb)
theorem qFr.fil {P : Nat → Prop} {I I' : qI} {a n : Nat} {f : Nat → Int32} (h : qFr P I I') (ha : P a) : qFr P I (qfil I' a n f) := fun b hb => (qfil_o (fun e => hb (by rw [e]; exact ha))).trans (h b hb)
theorem qFr.row {P : Nat → Prop} {I I' : qI} {a : Nat} {f : Nat → Int32} (h : qFr P I I') (ha : P a) : qFr P I (qrow I' a f) := fun b hb => (qrow_ne (fun e => hb (by rw [e]; exact ha))).trans (h b hb)
theorem qFr.mono {P P' : Nat → Prop} {I I' : qI} (h : qFr P I I') (hp : ∀ a, P a → P' a) : qFr P' I I' := fun a ha => h a (fun q => ha (hp a q))
section QRO
variable {E : qE} {S : qSh} {I : qI} {J : qJ}
theorem c_Ro_init {o : Nat} (hT : qT S o 6) (hz : qZ S I J) : qMet E y_Ro_init b_Ro_init 1 none 1 4 54 [.ref (qb E + o)] S I J (fun v S' I' J' => v = none ∧ S' = qal (qal (qal (qal S o 0 11 36) o 1 11 6) o 3 11 6) o 4 11 6 ∧ I = I' ∧ J = J') := by
  refine qMet.of (L := [some (.ref (qb E + o))]) (by decide +kernel) (Nat.le_of_ble_eq_true rfl) rfl ?_
  refine lda_n_1_0 (pc := 0) d_Ro_init_0 ?_
  refine r_objInit (pc := 1) ml_Ro_3 im_objInit cw_objInit d_Ro_init_1 (by omega) (Nat.le_of_ble_eq_true rfl) ?_
  refine lda_n_1_0 (pc := 4) d_Ro_init_4 ?_
  refine r_bipush (pc := 5) (v := 36) d_Ro_init_5 rfl ?_
  refine r_newaG (pc := 7) (k := 11) (n' := 36) (by decide) (by decide) rfl d_Ro_init_7 ac_int (by decide) rfl (by decide) (by omega) (by omega) ?_
  rw [hz.i, hz.j]
  have hT := hT.push (k2 := 11) (n := 36)
  refine p_Ro_9 (pc := 9) rfl rfl d_Ro_init_9 (by assumption) ?_
  change qW _ _ _ _ _ _ _ _ _ _ _ _ _ (qal S o 0 11 36) _ _
  have hz := hz.al (o := o) (j := 0) (k := 11) (n := 36)
  have hT : qT (qal S o 0 11 36) o 6 := hT
  refine lda_n_1_0 (pc := 12) d_Ro_init_12 ?_
  refine r_bipush (pc := 13) (v := 6) d_Ro_init_13 rfl ?_
  refine r_newaG (pc := 15) (k := 11) (n' := 6) (by decide) (by decide) rfl d_Ro_init_15 ac_int (by decide) rfl (by decide) (by omega) (by omega) ?_
  rw [hz.i, hz.j]
  have hT := hT.push (k2 := 11) (n := 6)
  refine p_Ro_15 (pc := 17) rfl rfl d_Ro_init_17 (by assumption) ?_
  change qW _ _ _ _ _ _ _ _ _ _ _ _ _ (qal (qal S o 0 11 36) o 1 11 6) _ _
  have hz := hz.al (o := o) (j := 1) (k := 11) (n := 6)
  have hT : qT (qal (qal S o 0 11 36) o 1 11 6) o 6 := hT
  refine lda_n_1_0 (pc := 20) d_Ro_init_20 ?_
  refine r_bipush (pc := 21) (v := 6) d_Ro_init_21 rfl ?_
  refine r_newaG (pc := 23) (k := 11) (n' := 6) (by decide) (by decide) rfl d_Ro_init_23 ac_int (by decide) rfl (by decide) (by omega) (by omega) ?_
  rw [hz.i, hz.j]
  have hT := hT.push (k2 := 11) (n := 6)
  refine p_Ro_18 (pc := 25) rfl rfl d_Ro_init_25 (by assumption) ?_
  change qW _ _ _ _ _ _ _ _ _ _ _ _ _ (qal (qal (qal S o 0 11 36) o 1 11 6) o 3 11 6) _ _
  have hz := hz.al (o := o) (j := 3) (k := 11) (n := 6)
  have hT : qT (qal (qal (qal S o 0 11 36) o 1 11 6) o 3 11 6) o 6 := hT
  refine lda_n_1_0 (pc := 28) d_Ro_init_28 ?_
  refine r_bipush (pc := 29) (v := 6) d_Ro_init_29 rfl ?_
  refine r_newaG (pc := 31) (k := 11) (n' := 6) (by decide) (by decide) rfl d_Ro_init_31 ac_int (by decide) rfl (by decide) (by omega) (by omega) ?_
  rw [hz.i, hz.j]
  have hT := hT.push (k2 := 11) (n := 6)
  refine p_Ro_21 (pc := 33) rfl rfl d_Ro_init_33 (by assumption) ?_
  exact r_vret d_Ro_init_36 rfl (by omega) (by omega) (⟨rfl, rfl, rfl, rfl⟩)
theorem c_Ro_hurtsAt {x k : Int32} (hR : isRo S) : qMet E y_Ro_hurtsAt b_Ro_hurtsAt 4 (some .int) 0 0 0 [.ref (qb E + 94), .int x, .int k] S I J (qPi S I J (qhurtAt I x k)) := by
  obtain ⟨hT, hA1, hA2, hA3, hA4, hR0, hR1, hR3, hR4⟩ := hR
  refine qMet.of (L := [some (.ref (qb E + 94)), some (.int x), some (.int k), none]) (by decide +kernel) (Nat.le_of_ble_eq_true rfl) rfl ?_
  refine r_bipush (pc := 0) (v := 6) d_Ro_hurtsAt_0 rfl ?_
  refine ldi_n_4_1 (pc := 2) d_Ro_hurtsAt_2 ?_
  refine r_imul (pc := 3) d_Ro_hurtsAt_3 ?_
  refine ldi_n_4_2 (pc := 4) d_Ro_hurtsAt_4 ?_
  refine r_iadd (pc := 5) d_Ro_hurtsAt_5 ?_
  refine sti_n_4_3 (pc := 6) d_Ro_hurtsAt_6 rfl ?_
  refine ldi_n_4_3 (pc := 7) d_Ro_hurtsAt_7 ?_
  unfold qhurtAt
  refine r_if_lt (pc := 8) (tgt := 29) d_Ro_hurtsAt_8 (by decide) (fun c => ?_) (fun c => ?_)
  · rw [if_pos c]
    refine r_iconst (pc := 29) (v := 0) d_Ro_hurtsAt_29 rfl ?_
    refine r_iret d_Ro_hurtsAt_30 rfl (by omega) (by omega) ?_
    exact ⟨rfl, rfl, rfl, rfl⟩
  · rw [if_neg c]
    refine ldi_n_4_3 (pc := 11) d_Ro_hurtsAt_11 ?_
    refine lda_n_4_0 (pc := 12) d_Ro_hurtsAt_12 ?_
    refine g_Ro_9 (pc := 13) rfl d_Ro_hurtsAt_13 (by assumption) (by assumption) ?_
    refine r_alen (pc := 16) d_Ro_hurtsAt_16 (by assumption) (by decide) (by decide) rfl ?_
    refine r_icmp_ge (pc := 17) (tgt := 29) d_Ro_hurtsAt_17 (by decide) (fun c2 => ?_) (fun c2 => ?_)
    · rw [if_pos (show 36 ≤ 6 * x + k from c2)]
      refine r_iconst (pc := 29) (v := 0) d_Ro_hurtsAt_29 rfl ?_
      refine r_iret d_Ro_hurtsAt_30 rfl (by omega) (by omega) ?_
      exact ⟨rfl, rfl, rfl, rfl⟩
    · rw [if_neg (show ¬ 36 ≤ 6 * x + k from c2)]
      have hin : vp_in (6 * x + k) 36 := qin_of (by decide) c (Int32.not_le.mp c2)
      refine lda_n_4_0 (pc := 20) d_Ro_hurtsAt_20 ?_
      refine g_Ro_9 (pc := 21) rfl d_Ro_hurtsAt_21 (by assumption) (by assumption) ?_
      refine ldi_n_4_3 (pc := 24) d_Ro_hurtsAt_24 ?_
      refine r_iald (pc := 25) d_Ro_hurtsAt_25 (by assumption) (hin) ?_
      refine r_goto (pc := 26) (tgt := 30) d_Ro_hurtsAt_26 (by decide) ?_
      refine r_iret d_Ro_hurtsAt_30 rfl (by omega) (by omega) ?_
      exact ⟨rfl, rfl, rfl, rfl⟩
theorem c_Ro_change {a b : Nat} (hR : isRo S) (ha : a < 6) (hb : b < 6) : qMet E y_Ro_change b_Ro_change 4 none 0 0 0 [.ref (qb E + 94), .int (nI a), .int (nI b)] S I J (fun v S' I' J' => v = none ∧ S = S' ∧ I' = qup (qup I 96 a (I 96 b)) 96 b (I 96 a) ∧ J = J') := by
  obtain ⟨hT, hA1, hA2, hA3, hA4, hR0, hR1, hR3, hR4⟩ := hR
  have h1 : vp_in (nI a) 6 := vp_in_nI ha (by omega)
  have h2 : vp_in (nI b) 6 := vp_in_nI hb (by omega)
  refine qMet.of (L := [some (.ref (qb E + 94)), some (.int (nI a)), some (.int (nI b)), none]) (by decide +kernel) (Nat.le_of_ble_eq_true rfl) rfl ?_
  refine lda_n_4_0 (pc := 0) d_Ro_change_0 ?_
  refine g_Ro_15 (pc := 1) rfl d_Ro_change_1 (by assumption) (by assumption) ?_
  refine ldi_n_4_1 (pc := 4) d_Ro_change_4 ?_
  refine r_iald (pc := 5) d_Ro_change_5 (by assumption) (h1) ?_
  refine sti_n_4_3 (pc := 6) d_Ro_change_6 rfl ?_
  refine lda_n_4_0 (pc := 7) d_Ro_change_7 ?_
  refine g_Ro_15 (pc := 8) rfl d_Ro_change_8 (by assumption) (by assumption) ?_
  refine ldi_n_4_1 (pc := 11) d_Ro_change_11 ?_
  refine lda_n_4_0 (pc := 12) d_Ro_change_12 ?_
  refine g_Ro_15 (pc := 13) rfl d_Ro_change_13 (by assumption) (by assumption) ?_
  refine ldi_n_4_2 (pc := 16) d_Ro_change_16 ?_
  refine r_iald (pc := 17) d_Ro_change_17 (by assumption) (h2) ?_
  refine r_iast (pc := 18) d_Ro_change_18 (by assumption) (h1) ?_
  refine lda_n_4_0 (pc := 19) d_Ro_change_19 ?_
  refine g_Ro_15 (pc := 20) rfl d_Ro_change_20 (by assumption) (by assumption) ?_
  refine ldi_n_4_2 (pc := 23) d_Ro_change_23 ?_
  refine ldi_n_4_3 (pc := 24) d_Ro_change_24 ?_
  refine r_iast (pc := 25) d_Ro_change_25 (by assumption) (h2) ?_
  rw [qcl (by omega), qcl (by omega)]
  exact r_vret d_Ro_change_26 rfl (by omega) (by omega) (⟨rfl, rfl, rfl, rfl⟩)
/-- what a row costs, and its dearest -/
def qrowH (I : qI) (z : Nat) : Int32 := qsumP (fun k => qhurtAt I (I 96 k) (nI k)) z
def qmaxP (f : Nat → Int32) : Nat → Int32
  | 0 => 0
  | n + 1 => qmax (qmaxP f n) (f n)
def qrowM (I : qI) (z : Nat) : Int32 := qmaxP (fun k => qhurtAt I (I 96 k) (nI k)) z
def qlook1 (I : qI) (z : Nat) (q : Int32) : qI := if q < qrowH I z then qup I 94 7 (I 94 7 + 1) else qup (qup I 94 7 (I 94 7 + 1)) 94 8 (I 94 8 + 1)
def qlook2 (I : qI) (z : Nat) (q : Int32) : qI := if I 94 5 ≤ qrowH I z then qlook1 I z q else qrow (qup (qlook1 I z q) 94 5 (qrowH I z)) 97 (va_cpy (I 96) (I 97) 0 0 z)
def qlook (I : qI) (z : Nat) (q : Int32) : qI := if I 94 6 ≤ qrowM I z then qlook2 I z q else qrow (qup (qlook2 I z q) 94 6 (qrowM I z)) 98 (va_cpy (I 96) (I 98) 0 0 z)
theorem qlook1_row {I : qI} {z : Nat} {q : Int32} {a : Nat} (h : a ≠ 94) : qlook1 I z q a = I a := by unfold qlook1; split <;> simp only [qup_row h]
theorem qlook1_j {I : qI} {z : Nat} {q : Int32} {j : Nat} (h : j ≠ 7) (h8 : j ≠ 8) : qlook1 I z q 94 j = I 94 j := by unfold qlook1; split <;> simp only [qup_j h, qup_j h8]
theorem qlook2_row {I : qI} {z : Nat} {q : Int32} {a : Nat} (h : a ≠ 94) (h2 : a ≠ 97) : qlook2 I z q a = I a := by
  unfold qlook2; split
  · exact qlook1_row h
  · rw [qrow_ne h2, qup_row h, qlook1_row h]
theorem qlook2_j {I : qI} {z : Nat} {q : Int32} {j : Nat} (h : j ≠ 7) (h8 : j ≠ 8) (h5 : j ≠ 5) : qlook2 I z q 94 j = I 94 j := by
  unfold qlook2; split
  · exact qlook1_j h h8
  · rw [qrow_ne (by decide), qup_j h5, qlook1_j h h8]
theorem qlook_row {I : qI} {z : Nat} {q : Int32} {a : Nat} (h : a ≠ 94) (h2 : a ≠ 97) (h3 : a ≠ 98) : qlook I z q a = I a := by
  unfold qlook; split
  · exact qlook2_row h h2
  · rw [qrow_ne h3, qup_row h, qlook2_row h h2]
theorem qlook_j {I : qI} {z : Nat} {q : Int32} {j : Nat} (h : j ≠ 7) (h8 : j ≠ 8) (h5 : j ≠ 5) (h6 : j ≠ 6) : qlook I z q 94 j = I 94 j := by
  unfold qlook; split
  · exact qlook2_j h h8 h5
  · rw [qrow_ne (by decide), qup_j h6, qlook2_j h h8 h5]
theorem c_Ro_look {z : Nat} {q : Int32} (hR : isRo S) (hz : I 94 2 = nI z) (hz6 : z ≤ 6) : qMet E y_Ro_look b_Ro_look 6 none 2 0 0 [.ref (qb E + 94), .int q] S I J (fun v S' I' J' => v = none ∧ S = S' ∧ I' = qlook I z q ∧ J' = qup J 94 9 (J 94 9 + (qrowH I z).toInt64)) := by
  have hR0' := hR
  obtain ⟨hT, hA1, hA2, hA3, hA4, hR0, hR1, hR3, hR4⟩ := hR
  have e0 : (0 : Int32).toNatClampNeg = 0 := by decide
  refine qMet.of (L := [some (.ref (qb E + 94)), some (.int q), none, none, none, none]) (by decide +kernel) (Nat.le_of_ble_eq_true rfl) rfl ?_
  refine r_iconst (pc := 0) (v := 0) d_Ro_look_0 rfl ?_
  refine sti_n_6_2 (pc := 1) d_Ro_look_1 rfl ?_
  refine r_iconst (pc := 2) (v := 0) d_Ro_look_2 rfl ?_
  refine sti_n_6_3 (pc := 3) d_Ro_look_3 rfl ?_
  refine r_iconst (pc := 4) (v := 0) d_Ro_look_4 rfl ?_
  refine sti_6_4 (pc := 5) d_Ro_look_5 rfl ?_
  have key := qfor (P := fun k => qW E y_Ro_look b_Ro_look none 2 0 0 (fun v S' I' J' => v = none ∧ S = S' ∧ I' = qlook I z q ∧ J' = qup J 94 9 (J 94 9 + (qrowH I z).toInt64)) 0 0 7 [some (.ref (qb E + 94)), some (.int q), some (.int (qrowH I k)), some (.int (qrowM I k)), some (.int (nI k)), none] [] S I J) z ?_ ?_ 0 (by omega)
  · exact key
  · refine ldi_6_4 (pc := 7) d_Ro_look_7 ?_
    refine lda_n_6_0 (pc := 9) d_Ro_look_9 ?_
    refine g_Ro_57 (pc := 10) rfl d_Ro_look_10 (by assumption) ?_
    rw [hz]
    refine r_icmp_ge (pc := 13) (tgt := 49) d_Ro_look_13 (by decide) (fun c1 => ?_) (fun c1 => ?_)
    · refine lda_n_6_0 (pc := 49) d_Ro_look_49 ?_
      refine r_dup (pc := 50) d_Ro_look_50 rfl ?_
      refine g_Ro_39 (pc := 51) rfl d_Ro_look_51 (by assumption) ?_
      refine r_iconst (pc := 54) (v := 1) d_Ro_look_54 rfl ?_
      refine r_iadd (pc := 55) d_Ro_look_55 ?_
      refine p_Ro_39 (pc := 56) rfl d_Ro_look_56 (by assumption) ?_
      refine lda_n_6_0 (pc := 59) d_Ro_look_59 ?_
      refine r_dup (pc := 60) d_Ro_look_60 rfl ?_
      refine g_Ro_45 (pc := 61) rfl d_Ro_look_61 (by assumption) ?_
      refine ldi_n_6_2 (pc := 64) d_Ro_look_64 ?_
      refine r_i2l (pc := 65) d_Ro_look_65 ?_
      refine r_ladd (pc := 66) d_Ro_look_66 ?_
      refine p_Ro_45 (pc := 67) rfl d_Ro_look_67 (by assumption) ?_
      refine ldi_n_6_2 (pc := 70) d_Ro_look_70 ?_
      refine ldi_n_6_1 (pc := 71) d_Ro_look_71 ?_
      have tail : ∀ (M : qI), M = qlook2 I z q → qW E y_Ro_look b_Ro_look none 2 0 0 (fun v S' I' J' => v = none ∧ S = S' ∧ I' = qlook I z q ∧ J' = qup J 94 9 (J 94 9 + (qrowH I z).toInt64)) 0 0 115 [some (.ref (qb E + 94)), some (.int q), some (.int (qrowH I z)), some (.int (qrowM I z)), some (.int (nI z)), none] [] S M (qup J 94 9 (J 94 9 + (qrowH I z).toInt64)) := by
        intro M hM
        subst hM
        refine ldi_n_6_3 (pc := 115) d_Ro_look_115 ?_
        refine lda_n_6_0 (pc := 116) d_Ro_look_116 ?_
        refine g_Ro_36 (pc := 117) rfl d_Ro_look_117 (by assumption) ?_
        rw [qlook2_j (by decide) (by decide) (by decide)]
        refine r_icmp_ge (pc := 120) (tgt := 145) d_Ro_look_120 (by decide) (fun c3 => ?_) (fun c3 => ?_)
        · exact r_vret d_Ro_look_145 rfl (by omega) (by omega) (⟨rfl, rfl, by rw [qlook, if_pos c3], rfl⟩)
        · refine lda_n_6_0 (pc := 123) d_Ro_look_123 ?_
          refine ldi_n_6_3 (pc := 124) d_Ro_look_124 ?_
          refine p_Ro_36 (pc := 125) rfl d_Ro_look_125 (by assumption) ?_
          refine lda_n_6_0 (pc := 128) d_Ro_look_128 ?_
          refine g_Ro_15 (pc := 129) rfl d_Ro_look_129 (by assumption) (by assumption) ?_
          refine r_iconst (pc := 132) (v := 0) d_Ro_look_132 rfl ?_
          refine lda_n_6_0 (pc := 133) d_Ro_look_133 ?_
          refine g_Ro_21 (pc := 134) rfl d_Ro_look_134 (by assumption) (by assumption) ?_
          refine r_iconst (pc := 137) (v := 0) d_Ro_look_137 rfl ?_
          refine lda_n_6_0 (pc := 138) d_Ro_look_138 ?_
          refine g_Ro_57 (pc := 139) rfl d_Ro_look_139 (by assumption) ?_
          rw [qup_j (by decide), qlook2_j (by decide) (by decide) (by decide), hz]
          refine r_copyi (pc := 142) (n0 := 6) (n1 := 6) ml_Ro_92 nat_copy sw_copy ii_System d_Ro_look_142 hA2 hA4 (by decide) (by decide) (nI_pos (by omega)) (by rw [e0, qcl (by omega)]; omega) (by rw [e0, qcl (by omega)]; omega) (by omega) (Nat.le_of_ble_eq_true rfl) ?_
          rw [e0, qcl (by omega), qup_row (show 96 ≠ 94 by decide), qup_row (show 98 ≠ 94 by decide), qlook2_row (by decide) (by decide), qlook2_row (by decide) (by decide)]
          exact r_vret d_Ro_look_145 rfl (by omega) (by omega) (⟨rfl, rfl, by rw [qlook, if_neg c3], rfl⟩)
      have mid : ∀ (M : qI), M = qlook1 I z q → qW E y_Ro_look b_Ro_look none 2 0 0 (fun v S' I' J' => v = none ∧ S = S' ∧ I' = qlook I z q ∧ J' = qup J 94 9 (J 94 9 + (qrowH I z).toInt64)) 0 0 85 [some (.ref (qb E + 94)), some (.int q), some (.int (qrowH I z)), some (.int (qrowM I z)), some (.int (nI z)), none] [] S M (qup J 94 9 (J 94 9 + (qrowH I z).toInt64)) := by
        intro M hM
        subst hM
        refine ldi_n_6_2 (pc := 85) d_Ro_look_85 ?_
        refine lda_n_6_0 (pc := 86) d_Ro_look_86 ?_
        refine g_Ro_32 (pc := 87) rfl d_Ro_look_87 (by assumption) ?_
        rw [qlook1_j (by decide) (by decide)]
        refine r_icmp_ge (pc := 90) (tgt := 115) d_Ro_look_90 (by decide) (fun c3 => ?_) (fun c3 => ?_)
        · exact tail _ (by rw [qlook2, if_pos c3])
        · refine lda_n_6_0 (pc := 93) d_Ro_look_93 ?_
          refine ldi_n_6_2 (pc := 94) d_Ro_look_94 ?_
          refine p_Ro_32 (pc := 95) rfl d_Ro_look_95 (by assumption) ?_
          refine lda_n_6_0 (pc := 98) d_Ro_look_98 ?_
          refine g_Ro_15 (pc := 99) rfl d_Ro_look_99 (by assumption) (by assumption) ?_
          refine r_iconst (pc := 102) (v := 0) d_Ro_look_102 rfl ?_
          refine lda_n_6_0 (pc := 103) d_Ro_look_103 ?_
          refine g_Ro_18 (pc := 104) rfl d_Ro_look_104 (by assumption) (by assumption) ?_
          refine r_iconst (pc := 107) (v := 0) d_Ro_look_107 rfl ?_
          refine lda_n_6_0 (pc := 108) d_Ro_look_108 ?_
          refine g_Ro_57 (pc := 109) rfl d_Ro_look_109 (by assumption) ?_
          rw [qup_j (by decide), qlook1_j (by decide) (by decide), hz]
          refine r_copyi (pc := 112) (n0 := 6) (n1 := 6) ml_Ro_92 nat_copy sw_copy ii_System d_Ro_look_112 hA2 hA3 (by decide) (by decide) (nI_pos (by omega)) (by rw [e0, qcl (by omega)]; omega) (by rw [e0, qcl (by omega)]; omega) (by omega) (Nat.le_of_ble_eq_true rfl) ?_
          rw [e0, qcl (by omega), qup_row (show 96 ≠ 94 by decide), qup_row (show 97 ≠ 94 by decide), qlook1_row (by decide), qlook1_row (by decide)]
          exact tail _ (by rw [qlook2, if_neg c3])
      refine r_icmp_gt (pc := 72) (tgt := 85) d_Ro_look_72 (by decide) (fun c2 => ?_) (fun c2 => ?_)
      · exact mid _ (by rw [qlook1, if_pos c2])
      · refine lda_n_6_0 (pc := 75) d_Ro_look_75 ?_
        refine r_dup (pc := 76) d_Ro_look_76 rfl ?_
        refine g_Ro_42 (pc := 77) rfl d_Ro_look_77 (by assumption) ?_
        refine r_iconst (pc := 80) (v := 1) d_Ro_look_80 rfl ?_
        refine r_iadd (pc := 81) d_Ro_look_81 ?_
        refine p_Ro_42 (pc := 82) rfl d_Ro_look_82 (by assumption) ?_
        rw [qup_j (by decide)]
        exact mid _ (by rw [qlook1, if_neg c2])
    · exact absurd (nI_le (Nat.le_refl _) (by omega)) c1
  · intro k hk ih
    have hin : vp_in (nI k) 6 := vp_in_nI (by omega) (by omega)
    refine ldi_6_4 (pc := 7) d_Ro_look_7 ?_
    refine lda_n_6_0 (pc := 9) d_Ro_look_9 ?_
    refine g_Ro_57 (pc := 10) rfl d_Ro_look_10 (by assumption) ?_
    rw [hz]
    refine r_icmp_ge (pc := 13) (tgt := 49) d_Ro_look_13 (by decide) (fun c1 => ?_) (fun c1 => ?_)
    · exact absurd c1 (nI_ge hk (by omega))
    · refine lda_n_6_0 (pc := 16) d_Ro_look_16 ?_
      refine lda_n_6_0 (pc := 17) d_Ro_look_17 ?_
      refine g_Ro_15 (pc := 18) rfl d_Ro_look_18 (by assumption) (by assumption) ?_
      refine ldi_6_4 (pc := 21) d_Ro_look_21 ?_
      refine r_iald (pc := 23) d_Ro_look_23 (by assumption) (hin) ?_
      refine ldi_6_4 (pc := 24) d_Ro_look_24 ?_
      rw [qcl (by omega)]
      refine r_callV (pc := 26) (As := [.int (I 96 k), .int (nI k)]) (k := 6) (N := 10) (T := T_Ro) k_Ro_83 im_Ro_hurtsAt se_Ro_hurtsAt rfl (by decide) rfl (by decide) d_Ro_look_26 (by assumption) (c_Ro_hurtsAt hR0') rfl (Nat.le_of_ble_eq_true rfl) (by omega) (by omega) (by omega) (fun v S' I' J' hq => ?_)
      obtain ⟨rfl, rfl, rfl, rfl⟩ := hq
      refine sti_6_5 (pc := 29) d_Ro_look_29 rfl ?_
      refine ldi_n_6_2 (pc := 31) d_Ro_look_31 ?_
      refine ldi_6_5 (pc := 32) d_Ro_look_32 ?_
      refine r_iadd (pc := 34) d_Ro_look_34 ?_
      refine sti_n_6_2 (pc := 35) d_Ro_look_35 rfl ?_
      refine ldi_n_6_3 (pc := 36) d_Ro_look_36 ?_
      refine ldi_6_5 (pc := 37) d_Ro_look_37 ?_
      refine r_callS (pc := 39) (As := [.int (qrowM I k), .int (qhurtAt I (I 96 k) (nI k))]) k_Ro_87 sw_jM_max rfl (by decide) d_Ro_look_39 (c_max _ _) rfl (Nat.le_of_ble_eq_true rfl) (by omega) (by omega) (by omega) (fun v S' I' J' hq => ?_)
      obtain ⟨rfl, rfl, rfl, rfl⟩ := hq
      refine sti_n_6_3 (pc := 42) d_Ro_look_42 rfl ?_
      refine inc_6_4 (pc := 43) (w := 1) d_Ro_look_43 rfl rfl ?_
      refine r_goto (pc := 46) (tgt := 7) d_Ro_look_46 (by decide) ?_
      rw [q1]
      exact qW.forget 5 ih
theorem c_Ro_goToNext {z : Nat} (hR : isRo S) (hz : I 94 2 = nI z) (hz6 : z ≤ 6) : qMet E y_Ro_goToNext b_Ro_goToNext 5 (some .boolean) 1 0 0 [.ref (qb E + 94)] S I J (fun v S' I' J' => ∃ r, v = some (.int r) ∧ qbool r ∧ S = S' ∧ qFr (fun a => a = 96) I I' ∧ (z ≤ 1 → r = 0 ∧ I = I') ∧ J = J') := by
  have hR0' := hR
  obtain ⟨hT, hA1, hA2, hA3, hA4, hR0, hR1, hR3, hR4⟩ := hR
  have no : ∀ (L1 L2 L3 L4 : Option Value), ∀ x : Int32, x < 0 → qW E y_Ro_goToNext b_Ro_goToNext (some .boolean) 1 0 0 (fun v S' I' J' => ∃ r, v = some (.int r) ∧ qbool r ∧ S = S' ∧ qFr (fun a => a = 96) I I' ∧ (z ≤ 1 → r = 0 ∧ I = I') ∧ J = J') 0 0 34 [some (.ref (qb E + 94)), some (.int x), L2, L3, L4] [] S I J := by
    intro L1 L2 L3 L4 x hx
    refine ldi_n_5_1 (pc := 34) d_Ro_goToNext_34 ?_
    refine r_if_ge (pc := 35) (tgt := 40) d_Ro_goToNext_35 (by decide) (fun c => ?_) (fun c => ?_)
    · exact absurd hx (Int32.not_lt.mpr c)
    · refine r_iconst (pc := 38) (v := 0) d_Ro_goToNext_38 rfl ?_
      exact r_nret d_Ro_goToNext_39 rfl (qbool_n (by first | exact Or.inl rfl | exact Or.inr rfl | assumption | exact qwithin_b | exact qbit_b)) (by omega) (by omega) (⟨0, rfl, Or.inl rfl, rfl, qFr.rf, fun _ => ⟨rfl, rfl⟩, rfl⟩)
  refine qMet.of (L := [some (.ref (qb E + 94)), none, none, none, none]) (by decide +kernel) (Nat.le_of_ble_eq_true rfl) rfl ?_
  refine lda_n_5_0 (pc := 0) d_Ro_goToNext_0 ?_
  refine g_Ro_57 (pc := 1) rfl d_Ro_goToNext_1 (by assumption) ?_
  refine r_iconst (pc := 4) (v := 2) d_Ro_goToNext_4 rfl ?_
  refine r_isub (pc := 5) d_Ro_goToNext_5 ?_
  refine sti_n_5_1 (pc := 6) d_Ro_goToNext_6 rfl ?_
  rw [hz]
  by_cases h2 : z < 2
  · have hx : nI z - 2 < 0 := pk_sneg (b := 2) (by decide) h2
    refine ldi_n_5_1 (pc := 7) d_Ro_goToNext_7 ?_
    refine r_if_lt (pc := 8) (tgt := 34) d_Ro_goToNext_8 (by decide) (fun c => ?_) (fun c => ?_)
    · exact no none none none none _ hx
    · exact absurd hx c
  · have e2 : nI z - 2 = nI (z - 2) := pk_sub (b := 2) (by omega)
    rw [e2]
    -- the second half, once a place that rises is found
    have half : ∀ r : Nat, r + 2 ≤ z → qW E y_Ro_goToNext b_Ro_goToNext (some .boolean) 1 0 0 (fun v S' I' J' => ∃ r, v = some (.int r) ∧ qbool r ∧ S = S' ∧ qFr (fun a => a = 96) I I' ∧ (z ≤ 1 → r = 0 ∧ I = I') ∧ J = J') 0 0 34 [some (.ref (qb E + 94)), some (.int (nI r)), none, none, none] [] S I J := by
      intro r hr
      refine ldi_n_5_1 (pc := 34) d_Ro_goToNext_34 ?_
      refine r_if_ge (pc := 35) (tgt := 40) d_Ro_goToNext_35 (by decide) (fun c => ?_) (fun c => ?_)
      · refine lda_n_5_0 (pc := 40) d_Ro_goToNext_40 ?_
        refine g_Ro_57 (pc := 41) rfl d_Ro_goToNext_41 (by assumption) ?_
        refine r_iconst (pc := 44) (v := 1) d_Ro_goToNext_44 rfl ?_
        refine r_isub (pc := 45) d_Ro_goToNext_45 ?_
        refine sti_n_5_2 (pc := 46) d_Ro_goToNext_46 rfl ?_
        rw [hz, show nI z - 1 = nI (z - 1) from pk_sub (b := 1) (by omega)]
        have sw : ∀ g : Nat, r ≤ g → g < z → qW E y_Ro_goToNext b_Ro_goToNext (some .boolean) 1 0 0 (fun v S' I' J' => ∃ r, v = some (.int r) ∧ qbool r ∧ S = S' ∧ qFr (fun a => a = 96) I I' ∧ (z ≤ 1 → r = 0 ∧ I = I') ∧ J = J') 0 0 73 [some (.ref (qb E + 94)), some (.int (nI r)), some (.int (nI g)), none, none] [] S I J := by
          intro g hg1 hg2
          refine lda_n_5_0 (pc := 73) d_Ro_goToNext_73 ?_
          refine ldi_n_5_1 (pc := 74) d_Ro_goToNext_74 ?_
          refine ldi_n_5_2 (pc := 75) d_Ro_goToNext_75 ?_
          refine r_callV (pc := 76) (As := [.int (nI r), .int (nI g)]) (k := 6) (N := 10) (T := T_Ro) k_Ro_98 im_Ro_change se_Ro_change rfl (by decide) rfl (by decide) d_Ro_goToNext_76 (by assumption) (c_Ro_change hR0' (by omega) (by omega)) rfl (Nat.le_of_ble_eq_true rfl) (by omega) (by omega) (by omega) (fun v S' I' J' hq => ?_)
          obtain ⟨rfl, rfl, rfl, rfl⟩ := hq
          refine lda_n_5_0 (pc := 79) d_Ro_goToNext_79 ?_
          refine g_Ro_57 (pc := 80) rfl d_Ro_goToNext_80 (by assumption) ?_
          refine r_iconst (pc := 83) (v := 1) d_Ro_goToNext_83 rfl ?_
          refine r_isub (pc := 84) d_Ro_goToNext_84 ?_
          refine sti_n_5_3 (pc := 85) d_Ro_goToNext_85 rfl ?_
          refine ldi_n_5_1 (pc := 86) d_Ro_goToNext_86 ?_
          refine r_iconst (pc := 87) (v := 1) d_Ro_goToNext_87 rfl ?_
          refine r_iadd (pc := 88) d_Ro_goToNext_88 ?_
          refine sti_5_4 (pc := 89) d_Ro_goToNext_89 rfl ?_
          rw [qup_o (by decide), qup_o (by decide), hz, show nI z - 1 = nI (z - 1) from pk_sub (b := 1) (by omega), q1]
          have fr0 : qFr (fun a => a = 96) I (qup (qup I 96 r (I 96 g)) 96 g (I 96 r)) := qFr.up (P := fun a => a = 96) (qFr.up (P := fun a => a = 96) qFr.rf rfl) rfl
          generalize qup (qup I 96 r (I 96 g)) 96 g (I 96 r) = M0 at fr0
          have rev : ∀ (n a b : Nat) (M : qI), b ≤ a + n → b < z → a < z + 1 → qFr (fun a => a = 96) I M → qW E y_Ro_goToNext b_Ro_goToNext (some .boolean) 1 0 0 (fun v S' I' J' => ∃ r, v = some (.int r) ∧ qbool r ∧ S = S' ∧ qFr (fun a => a = 96) I I' ∧ (z ≤ 1 → r = 0 ∧ I = I') ∧ J = J') 0 0 91 [some (.ref (qb E + 94)), some (.int (nI r)), some (.int (nI g)), some (.int (nI b)), some (.int (nI a))] [] S M J := by
            intro n
            induction n with
            | zero =>
              intro a b M h1 h2 h3 hf
              refine ldi_5_4 (pc := 91) d_Ro_goToNext_91 ?_
              refine ldi_n_5_3 (pc := 93) d_Ro_goToNext_93 ?_
              refine r_icmp_ge (pc := 94) (tgt := 113) d_Ro_goToNext_94 (by decide) (fun c3 => ?_) (fun c3 => ?_)
              · refine r_iconst (pc := 113) (v := 1) d_Ro_goToNext_113 rfl ?_
                exact r_nret d_Ro_goToNext_114 rfl (qbool_n (by first | exact Or.inl rfl | exact Or.inr rfl | assumption | exact qwithin_b | exact qbit_b)) (by omega) (by omega) (⟨1, rfl, Or.inr rfl, rfl, hf, fun q => by omega, rfl⟩)
              · exact absurd (nI_le (show b ≤ a by omega) (by omega)) c3
            | succ n ih =>
              intro a b M h1 h2 h3 hf
              refine ldi_5_4 (pc := 91) d_Ro_goToNext_91 ?_
              refine ldi_n_5_3 (pc := 93) d_Ro_goToNext_93 ?_
              refine r_icmp_ge (pc := 94) (tgt := 113) d_Ro_goToNext_94 (by decide) (fun c3 => ?_) (fun c3 => ?_)
              · refine r_iconst (pc := 113) (v := 1) d_Ro_goToNext_113 rfl ?_
                exact r_nret d_Ro_goToNext_114 rfl (qbool_n (by first | exact Or.inl rfl | exact Or.inr rfl | assumption | exact qwithin_b | exact qbit_b)) (by omega) (by omega) (⟨1, rfl, Or.inr rfl, rfl, hf, fun q => by omega, rfl⟩)
              · have hab : a < b := by
                  rcases Nat.lt_or_ge a b with q | q
                  · exact q
                  · exact absurd (nI_le q (by omega)) c3
                refine lda_n_5_0 (pc := 97) d_Ro_goToNext_97 ?_
                refine ldi_5_4 (pc := 98) d_Ro_goToNext_98 ?_
                refine ldi_n_5_3 (pc := 100) d_Ro_goToNext_100 ?_
                refine r_callV (pc := 101) (As := [.int (nI a), .int (nI b)]) (k := 6) (N := 10) (T := T_Ro) k_Ro_98 im_Ro_change se_Ro_change rfl (by decide) rfl (by decide) d_Ro_goToNext_101 (by assumption) (c_Ro_change hR0' (by omega) (by omega)) rfl (Nat.le_of_ble_eq_true rfl) (by omega) (by omega) (by omega) (fun v S' I' J' hq => ?_)
                obtain ⟨rfl, rfl, rfl, rfl⟩ := hq
                refine inc_5_3 (pc := 104) (w := (-1)) d_Ro_goToNext_104 rfl rfl ?_
                refine inc_5_4 (pc := 107) (w := 1) d_Ro_goToNext_107 rfl rfl ?_
                refine r_goto (pc := 110) (tgt := 91) d_Ro_goToNext_110 (by decide) ?_
                rw [q1, show nI b + -1 = nI (b - 1) by rw [show b = (b - 1) + 1 by omega, pk_m1, Nat.add_sub_cancel]]
                exact ih (a + 1) (b - 1) _ (by omega) (by omega) (by omega) ((hf.up rfl).up rfl)
          exact rev z (r + 1) (z - 1) M0 (by omega) (by omega) (by omega) fr0
        have find : ∀ n g : Nat, g = r + n → g < z → qW E y_Ro_goToNext b_Ro_goToNext (some .boolean) 1 0 0 (fun v S' I' J' => ∃ r, v = some (.int r) ∧ qbool r ∧ S = S' ∧ qFr (fun a => a = 96) I I' ∧ (z ≤ 1 → r = 0 ∧ I = I') ∧ J = J') 0 0 47 [some (.ref (qb E + 94)), some (.int (nI r)), some (.int (nI g)), none, none] [] S I J := by
          intro n
          induction n with
          | zero =>
            intro g hg hgz
            refine ldi_n_5_2 (pc := 47) d_Ro_goToNext_47 ?_
            refine ldi_n_5_1 (pc := 48) d_Ro_goToNext_48 ?_
            refine r_icmp_le (pc := 49) (tgt := 73) d_Ro_goToNext_49 (by decide) (fun c2 => ?_) (fun c2 => ?_)
            · exact sw g (by omega) hgz
            · exact absurd (nI_le (show g ≤ r by omega) (by omega)) c2
          | succ n ih =>
            intro g hg hgz
            have i1 : vp_in (nI g) 6 := vp_in_nI (by omega) (by omega)
            have i2 : vp_in (nI r) 6 := vp_in_nI (by omega) (by omega)
            refine ldi_n_5_2 (pc := 47) d_Ro_goToNext_47 ?_
            refine ldi_n_5_1 (pc := 48) d_Ro_goToNext_48 ?_
            refine r_icmp_le (pc := 49) (tgt := 73) d_Ro_goToNext_49 (by decide) (fun c2 => ?_) (fun c2 => ?_)
            · exact sw g (by omega) hgz
            · refine lda_n_5_0 (pc := 52) d_Ro_goToNext_52 ?_
              refine g_Ro_15 (pc := 53) rfl d_Ro_goToNext_53 (by assumption) (by assumption) ?_
              refine ldi_n_5_2 (pc := 56) d_Ro_goToNext_56 ?_
              refine r_iald (pc := 57) d_Ro_goToNext_57 (by assumption) (i1) ?_
              refine lda_n_5_0 (pc := 58) d_Ro_goToNext_58 ?_
              refine g_Ro_15 (pc := 59) rfl d_Ro_goToNext_59 (by assumption) (by assumption) ?_
              refine ldi_n_5_1 (pc := 62) d_Ro_goToNext_62 ?_
              refine r_iald (pc := 63) d_Ro_goToNext_63 (by assumption) (i2) ?_
              refine r_icmp_ge (pc := 64) (tgt := 73) d_Ro_goToNext_64 (by decide) (fun c3 => ?_) (fun c3 => ?_)
              · exact sw g (by omega) hgz
              · refine inc_5_2 (pc := 67) (w := (-1)) d_Ro_goToNext_67 rfl rfl ?_
                refine r_goto (pc := 70) (tgt := 47) d_Ro_goToNext_70 (by decide) ?_
                rw [show nI g + -1 = nI (g - 1) by rw [show g = (g - 1) + 1 by omega, pk_m1, Nat.add_sub_cancel]]
                exact ih (g - 1) (by omega) (by omega)
        exact find (z - 1 - r) (z - 1) (by omega) (by omega)
      · exact absurd (nI_pos' (n := r) (by omega)) c
    have up : ∀ r : Nat, r + 2 ≤ z → qW E y_Ro_goToNext b_Ro_goToNext (some .boolean) 1 0 0 (fun v S' I' J' => ∃ r, v = some (.int r) ∧ qbool r ∧ S = S' ∧ qFr (fun a => a = 96) I I' ∧ (z ≤ 1 → r = 0 ∧ I = I') ∧ J = J') 0 0 7 [some (.ref (qb E + 94)), some (.int (nI r)), none, none, none] [] S I J := by
      intro r
      induction r with
      | zero =>
        intro hr
        have i1 : vp_in (nI 0) 6 := vp_in_nI (by omega) (by omega)
        have i2 : vp_in (nI 0 + 1) 6 := by rw [q1]; exact vp_in_nI (by omega) (by omega)
        refine ldi_n_5_1 (pc := 7) d_Ro_goToNext_7 ?_
        refine r_if_lt (pc := 8) (tgt := 34) d_Ro_goToNext_8 (by decide) (fun c => ?_) (fun c => ?_)
        · exact absurd c (by decide)
        · refine lda_n_5_0 (pc := 11) d_Ro_goToNext_11 ?_
          refine g_Ro_15 (pc := 12) rfl d_Ro_goToNext_12 (by assumption) (by assumption) ?_
          refine ldi_n_5_1 (pc := 15) d_Ro_goToNext_15 ?_
          refine r_iald (pc := 16) d_Ro_goToNext_16 (by assumption) (i1) ?_
          refine lda_n_5_0 (pc := 17) d_Ro_goToNext_17 ?_
          refine g_Ro_15 (pc := 18) rfl d_Ro_goToNext_18 (by assumption) (by assumption) ?_
          refine ldi_n_5_1 (pc := 21) d_Ro_goToNext_21 ?_
          refine r_iconst (pc := 22) (v := 1) d_Ro_goToNext_22 rfl ?_
          refine r_iadd (pc := 23) d_Ro_goToNext_23 ?_
          refine r_iald (pc := 24) d_Ro_goToNext_24 (by assumption) (i2) ?_
          refine r_icmp_le (pc := 25) (tgt := 34) d_Ro_goToNext_25 (by decide) (fun c2 => ?_) (fun c2 => ?_)
          · exact half 0 hr
          · refine inc_5_1 (pc := 28) (w := (-1)) d_Ro_goToNext_28 rfl rfl ?_
            refine r_goto (pc := 31) (tgt := 7) d_Ro_goToNext_31 (by decide) ?_
            refine ldi_n_5_1 (pc := 7) d_Ro_goToNext_7 ?_
            refine r_if_lt (pc := 8) (tgt := 34) d_Ro_goToNext_8 (by decide) (fun c3 => ?_) (fun c3 => ?_)
            · exact no none none none none _ c3
            · exact absurd (by decide) c3
      | succ r ih =>
        intro hr
        have i1 : vp_in (nI (r + 1)) 6 := vp_in_nI (by omega) (by omega)
        have i2 : vp_in (nI (r + 1) + 1) 6 := by rw [q1]; exact vp_in_nI (by omega) (by omega)
        refine ldi_n_5_1 (pc := 7) d_Ro_goToNext_7 ?_
        refine r_if_lt (pc := 8) (tgt := 34) d_Ro_goToNext_8 (by decide) (fun c => ?_) (fun c => ?_)
        · exact absurd c (nI_pos (by omega))
        · refine lda_n_5_0 (pc := 11) d_Ro_goToNext_11 ?_
          refine g_Ro_15 (pc := 12) rfl d_Ro_goToNext_12 (by assumption) (by assumption) ?_
          refine ldi_n_5_1 (pc := 15) d_Ro_goToNext_15 ?_
          refine r_iald (pc := 16) d_Ro_goToNext_16 (by assumption) (i1) ?_
          refine lda_n_5_0 (pc := 17) d_Ro_goToNext_17 ?_
          refine g_Ro_15 (pc := 18) rfl d_Ro_goToNext_18 (by assumption) (by assumption) ?_
          refine ldi_n_5_1 (pc := 21) d_Ro_goToNext_21 ?_
          refine r_iconst (pc := 22) (v := 1) d_Ro_goToNext_22 rfl ?_
          refine r_iadd (pc := 23) d_Ro_goToNext_23 ?_
          refine r_iald (pc := 24) d_Ro_goToNext_24 (by assumption) (i2) ?_
          refine r_icmp_le (pc := 25) (tgt := 34) d_Ro_goToNext_25 (by decide) (fun c2 => ?_) (fun c2 => ?_)
          · exact half (r + 1) hr
          · refine inc_5_1 (pc := 28) (w := (-1)) d_Ro_goToNext_28 rfl rfl ?_
            refine r_goto (pc := 31) (tgt := 7) d_Ro_goToNext_31 (by decide) ?_
            rw [pk_m1]
            exact ih (by omega)
    exact up (z - 2) (by omega)
end QRO
