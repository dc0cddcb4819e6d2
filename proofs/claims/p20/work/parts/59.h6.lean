/-! the object's calls: odds, of, taken, looked, judged, acts -/
theorem sub_neg60 : ∀ z, z < 61 → ∀ p, p < 7 → z < p → nI z - nI p < 0 := by decide +kernel
theorem qbegin_row {I : qI} {x : Int32} {a : Nat} (h1 : a ≠ 99) (h2 : a ≠ 100) : qbegin I x a = I a := by
  unfold qbegin
  split
  · rw [qup_row h1, qup_row h2]
  · rw [qup_row h1]
theorem qtrace_row {a : Nat} (h1 : a ≠ 99) (h2 : a ≠ 100) : ∀ (l : List Int32) (I : qI), qtrace I l a = I a := by
  intro l
  induction l with
  | nil => intro I; rfl
  | cons x l ih => intro I; exact (ih (qbegin I x)).trans (qbegin_row h1 h2)
section H6
variable {E : qE} {S : qSh} {I : qI} {J : qJ} {w0 w1 w2 bl : Nat}
theorem c_On_commonDivisor (a b : Int64) : qMet E y_On_commonDivisor b_On_commonDivisor 7 (some .long) 0 0 0 [.long a, .long b] S I J (fun v S' I' J' => (∃ r, v = some (.long r)) ∧ S = S' ∧ I = I' ∧ J = J') := by
  refine qMet.of (L := [some (.long a), none, some (.long b), none, none, none, none]) (by decide +kernel) (Nat.le_of_ble_eq_true rfl) rfl ?_
  have key : ∀ (k : Nat), k ≤ 100 → ∀ (a b : Int64), qW E y_On_commonDivisor b_On_commonDivisor (some .long) 0 0 0 (fun v S' I' J' => (∃ r, v = some (.long r)) ∧ S = S' ∧ I = I' ∧ J = J') 0 0 4 [some (.long a), none, some (.long b), none, some (.int (nI k)), none, none] [] S I J := by
    intro k
    induction k with
    | zero =>
      intro _ a b
      refine ldi_7_4 (pc := 4) d_On_commonDivisor_4 ?_
      refine r_if_le (pc := 6) (tgt := 31) d_On_commonDivisor_6 (by decide) (fun c => ?_) (fun c => ?_)
      · refine ldl_n_7_0 (pc := 31) d_On_commonDivisor_31 ?_
        exact r_lret d_On_commonDivisor_32 rfl (by omega) (by omega) (⟨⟨_, rfl⟩, rfl, rfl, rfl⟩)
      · exact absurd (by decide) c
    | succ k ih =>
      intro hk a b
      refine ldi_7_4 (pc := 4) d_On_commonDivisor_4 ?_
      refine r_if_le (pc := 6) (tgt := 31) d_On_commonDivisor_6 (by decide) (fun c => ?_) (fun c => ?_)
      · exact absurd c (nI_nle (by omega) (by omega))
      · refine ldl_n_7_2 (pc := 9) d_On_commonDivisor_9 ?_
        refine r_lconst (pc := 10) (v := 0) d_On_commonDivisor_10 rfl ?_
        refine r_lcmp (pc := 11) d_On_commonDivisor_11 ?_
        refine r_if_eq (pc := 12) (tgt := 31) d_On_commonDivisor_12 (by decide) (fun c2 => ?_) (fun c2 => ?_)
        · refine ldl_n_7_0 (pc := 31) d_On_commonDivisor_31 ?_
          exact r_lret d_On_commonDivisor_32 rfl (by omega) (by omega) (⟨⟨_, rfl⟩, rfl, rfl, rfl⟩)
        · refine ldl_n_7_0 (pc := 15) d_On_commonDivisor_15 ?_
          refine ldl_n_7_2 (pc := 16) d_On_commonDivisor_16 ?_
          refine r_lrem (pc := 17) d_On_commonDivisor_17 (fun e => c2 (qcmp_eq.mpr e)) ?_
          refine stl_7_5 (pc := 18) d_On_commonDivisor_18 rfl ?_
          refine ldl_n_7_2 (pc := 20) d_On_commonDivisor_20 ?_
          refine stl_n_7_0 (pc := 21) d_On_commonDivisor_21 ?_
          refine ldl_7_5 (pc := 22) d_On_commonDivisor_22 ?_
          refine stl_n_7_2 (pc := 24) d_On_commonDivisor_24 rfl ?_
          refine inc_7_4 (pc := 25) (w := (-1)) d_On_commonDivisor_25 rfl rfl ?_
          refine r_goto (pc := 28) (tgt := 4) d_On_commonDivisor_28 (by decide) ?_
          rw [pk_m1]
          exact qW.forget 5 (ih (by omega) _ _)
  refine r_bipush (pc := 0) (v := 100) d_On_commonDivisor_0 rfl ?_
  refine sti_7_4 (pc := 2) d_On_commonDivisor_2 rfl ?_
  exact key 100 (by omega) a b
theorem c_On_inLowestTerms (a b : Int64) (p : Int32) : qMet E y_On_inLowestTerms b_On_inLowestTerms 7 (some .long) 1 0 0 [.long a, .long b, .int p] S I J (fun v S' I' J' => (∃ r, v = some (.long r)) ∧ S = S' ∧ I = I' ∧ J = J') := by
  refine qMet.of (L := [some (.long a), none, some (.long b), none, some (.int p), none, none]) (by decide +kernel) (Nat.le_of_ble_eq_true rfl) rfl ?_
  refine ldl_n_7_0 (pc := 0) d_On_inLowestTerms_0 ?_
  refine ldl_n_7_2 (pc := 1) d_On_inLowestTerms_1 ?_
  refine r_callS (pc := 2) (As := [.long a, .long b]) k_On_293 sw_On_commonDivisor rfl (by decide) d_On_inLowestTerms_2 (c_On_commonDivisor a b) rfl (Nat.le_of_ble_eq_true rfl) (by omega) (by omega) (by omega) (fun v S' I' J' hq => ?_)
  obtain ⟨⟨g, rfl⟩, rfl, rfl, rfl⟩ := hq
  refine stl_7_5 (pc := 5) d_On_inLowestTerms_5 rfl ?_
  refine ldl_7_5 (pc := 7) d_On_inLowestTerms_7 ?_
  refine r_lconst (pc := 9) (v := 0) d_On_inLowestTerms_9 rfl ?_
  refine r_lcmp (pc := 10) d_On_inLowestTerms_10 ?_
  refine r_if_ne (pc := 11) (tgt := 18) d_On_inLowestTerms_11 (by decide) (fun c => ?_) (fun c => ?_)
  · refine ldi_7_4 (pc := 18) d_On_inLowestTerms_18 ?_
    refine r_if_ne (pc := 20) (tgt := 27) d_On_inLowestTerms_20 (by decide) (fun c2 => ?_) (fun c2 => ?_)
    · refine ldl_n_7_2 (pc := 27) d_On_inLowestTerms_27 ?_
      refine ldl_7_5 (pc := 28) d_On_inLowestTerms_28 ?_
      refine r_ldiv (pc := 30) d_On_inLowestTerms_30 (fun e => c (qcmp_eq.mpr e)) ?_
      exact r_lret d_On_inLowestTerms_31 rfl (by omega) (by omega) (⟨⟨_, rfl⟩, rfl, rfl, rfl⟩)
    · refine ldl_n_7_0 (pc := 23) d_On_inLowestTerms_23 ?_
      refine r_goto (pc := 24) (tgt := 28) d_On_inLowestTerms_24 (by decide) ?_
      refine ldl_7_5 (pc := 28) d_On_inLowestTerms_28 ?_
      refine r_ldiv (pc := 30) d_On_inLowestTerms_30 (fun e => c (qcmp_eq.mpr e)) ?_
      exact r_lret d_On_inLowestTerms_31 rfl (by omega) (by omega) (⟨⟨_, rfl⟩, rfl, rfl, rfl⟩)
  · refine r_ldc2 (pc := 14) cl_On_216 d_On_inLowestTerms_14 ?_
    exact r_lret d_On_inLowestTerms_17 rfl (by omega) (by omega) (⟨⟨_, rfl⟩, rfl, rfl, rfl⟩)
theorem c_On_odds {q p : Int32} {c : Nat} (hO : isOn S w0 w1 w2 bl) (hw : qW1 w0) (hok : qMgOK I 6 9999) (hI : qIsOK I w0) (hc : I 6 1 = nI c) (hc6 : c ≤ 6) : qMet E y_On_odds b_On_odds 3 (some .long) 6 0 0 [.ref (qb E + 0), .int q, .int p] S I J (cRL S I J w0) := by
  obtain ⟨oT, oR0, oR1, oR2, oR3, oR5, oR6, oR8, oR9, oR10, hI1, hN, hA, hM3, hRe, hBl, hRo, hAc, tA, tR, tT⟩ := hO
  have hRo0 := hRo
  obtain ⟨rT, -⟩ := hRo
  refine qMet.of (L := [some (.ref (qb E + 0)), some (.int q), some (.int p)]) (by decide +kernel) (Nat.le_of_ble_eq_true rfl) rfl ?_
  refine ldi_n_3_1 (pc := 0) d_On_odds_0 ?_
  refine r_iconst (pc := 1) (v := 0) d_On_odds_1 rfl ?_
  refine r_sipush (pc := 2) (v := 9999) d_On_odds_2 rfl ?_
  refine r_callS (pc := 5) (As := [.int q, .int 0, .int 9999]) k_On_64 sw_On_within rfl (by decide) d_On_odds_5 (c_On_within _ _ _) rfl (Nat.le_of_ble_eq_true rfl) (by omega) (by omega) (by omega) (fun v S' I' J' hq => ?_)
  obtain ⟨rfl, rfl, rfl, rfl⟩ := hq
  refine r_if_eq (pc := 8) (tgt := 20) d_On_odds_8 (by decide) (fun c1 => ?_) (fun c1 => ?_)
  · refine r_ldc2 (pc := 20) cl_On_216 d_On_odds_20 ?_
    exact r_lret d_On_odds_23 rfl (by omega) (by omega) (⟨⟨_, rfl⟩, rfl, qFr.rf, fun _ _ => rfl⟩)
  · refine ldi_n_3_2 (pc := 11) d_On_odds_11 ?_
    refine r_iconst (pc := 12) (v := 0) d_On_odds_12 rfl ?_
    refine r_iconst (pc := 13) (v := 1) d_On_odds_13 rfl ?_
    refine r_callS (pc := 14) (As := [.int p, .int 0, .int 1]) k_On_64 sw_On_within rfl (by decide) d_On_odds_14 (c_On_within _ _ _) rfl (Nat.le_of_ble_eq_true rfl) (by omega) (by omega) (by omega) (fun v S' I' J' hq => ?_)
    obtain ⟨rfl, rfl, rfl, rfl⟩ := hq
    refine r_if_ne (pc := 17) (tgt := 24) d_On_odds_17 (by decide) (fun c2 => ?_) (fun c2 => ?_)
    · refine lda_n_3_0 (pc := 24) d_On_odds_24 ?_
      refine g_On_46 (pc := 25) rfl d_On_odds_25 (by assumption) (by assumption) ?_
      refine lda_n_3_0 (pc := 28) d_On_odds_28 ?_
      refine g_On_23 (pc := 29) rfl d_On_odds_29 (by assumption) (by assumption) ?_
      refine ldi_n_3_1 (pc := 32) d_On_odds_32 ?_
      refine r_callVN (pc := 33) (As := [.ref (qb E + 6), .int q]) (k := 6) (N := 10) (T := T_Ro) k_On_184 im_Ro_walk se_Ro_walk rfl (by decide) rfl (by decide) d_On_odds_33 rT (c_Ro_walk hRo0 hN hok hI hw.pos (by omega) hc hc6) rfl (Nat.le_of_ble_eq_true rfl) (by omega) (by omega) (by omega) (fun v S' I' J' hq => ?_)
      obtain ⟨rfl, rfl, fr, -, fj, -⟩ := hq
      refine lda_n_3_0 (pc := 36) d_On_odds_36 ?_
      refine g_On_46 (pc := 37) rfl d_On_odds_37 (by assumption) (by assumption) ?_
      refine g_On_218 (pc := 40) rfl d_On_odds_40 (by assumption) ?_
      refine r_i2l (pc := 43) d_On_odds_43 ?_
      refine lda_n_3_0 (pc := 44) d_On_odds_44 ?_
      refine g_On_46 (pc := 45) rfl d_On_odds_45 (by assumption) (by assumption) ?_
      refine g_On_221 (pc := 48) rfl d_On_odds_48 (by assumption) ?_
      refine r_i2l (pc := 51) d_On_odds_51 ?_
      refine ldi_n_3_2 (pc := 52) d_On_odds_52 ?_
      refine r_callS (pc := 53) (As := [.long (I' 94 8).toInt64, .long (I' 94 7).toInt64, .int p]) k_On_224 sw_On_inLowestTerms rfl (by decide) d_On_odds_53 (c_On_inLowestTerms _ _ _) rfl (Nat.le_of_ble_eq_true rfl) (by omega) (by omega) (by omega) (fun v S' I'' J'' hq => ?_)
      obtain ⟨⟨g, rfl⟩, rfl, rfl, rfl⟩ := hq
      exact r_lret d_On_odds_56 rfl (by omega) (by omega) (⟨⟨_, rfl⟩, rfl, fr, fj⟩)
    · refine r_ldc2 (pc := 20) cl_On_216 d_On_odds_20 ?_
      exact r_lret d_On_odds_23 rfl (by omega) (by omega) (⟨⟨_, rfl⟩, rfl, qFr.rf, fun _ _ => rfl⟩)
theorem c_On_mean {p : Int32} {c : Nat} (hO : isOn S w0 w1 w2 bl) (hw : qW1 w0) (hok : qMgOK I 6 9999) (hI : qIsOK I w0) (hc : I 6 1 = nI c) (hc6 : c ≤ 6) : qMet E y_On_mean b_On_mean 2 (some .long) 6 0 0 [.ref (qb E + 0), .int p] S I J (cRL S I J w0) := by
  obtain ⟨oT, oR0, oR1, oR2, oR3, oR5, oR6, oR8, oR9, oR10, hI1, hN, hA, hM3, hRe, hBl, hRo, hAc, tA, tR, tT⟩ := hO
  have hRo0 := hRo
  obtain ⟨rT, -⟩ := hRo
  refine qMet.of (L := [some (.ref (qb E + 0)), some (.int p)]) (by decide +kernel) (Nat.le_of_ble_eq_true rfl) rfl ?_
  refine ldi_n_2_1 (pc := 0) d_On_mean_0 ?_
  refine r_iconst (pc := 1) (v := 0) d_On_mean_1 rfl ?_
  refine r_iconst (pc := 2) (v := 1) d_On_mean_2 rfl ?_
  refine r_callS (pc := 3) (As := [.int p, .int 0, .int 1]) k_On_64 sw_On_within rfl (by decide) d_On_mean_3 (c_On_within _ _ _) rfl (Nat.le_of_ble_eq_true rfl) (by omega) (by omega) (by omega) (fun v S' I' J' hq => ?_)
  obtain ⟨rfl, rfl, rfl, rfl⟩ := hq
  refine r_if_ne (pc := 6) (tgt := 13) d_On_mean_6 (by decide) (fun c2 => ?_) (fun c2 => ?_)
  · refine lda_n_2_0 (pc := 13) d_On_mean_13 ?_
    refine g_On_46 (pc := 14) rfl d_On_mean_14 (by assumption) (by assumption) ?_
    refine lda_n_2_0 (pc := 17) d_On_mean_17 ?_
    refine g_On_23 (pc := 18) rfl d_On_mean_18 (by assumption) (by assumption) ?_
    refine r_iconst (pc := 21) (v := 0) d_On_mean_21 rfl ?_
    refine r_callVN (pc := 22) (As := [.ref (qb E + 6), .int 0]) (k := 6) (N := 10) (T := T_Ro) k_On_184 im_Ro_walk se_Ro_walk rfl (by decide) rfl (by decide) d_On_mean_22 rT (c_Ro_walk hRo0 hN hok hI hw.pos (by omega) hc hc6) rfl (Nat.le_of_ble_eq_true rfl) (by omega) (by omega) (by omega) (fun v S' I' J' hq => ?_)
    obtain ⟨rfl, rfl, fr, -, fj, -⟩ := hq
    refine lda_n_2_0 (pc := 25) d_On_mean_25 ?_
    refine g_On_46 (pc := 26) rfl d_On_mean_26 (by assumption) (by assumption) ?_
    refine g_On_228 (pc := 29) rfl d_On_mean_29 (by assumption) ?_
    refine lda_n_2_0 (pc := 32) d_On_mean_32 ?_
    refine g_On_46 (pc := 33) rfl d_On_mean_33 (by assumption) (by assumption) ?_
    refine g_On_221 (pc := 36) rfl d_On_mean_36 (by assumption) ?_
    refine r_i2l (pc := 39) d_On_mean_39 ?_
    refine ldi_n_2_1 (pc := 40) d_On_mean_40 ?_
    refine r_callS (pc := 41) (As := [.long (J' 94 9), .long (I' 94 7).toInt64, .int p]) k_On_224 sw_On_inLowestTerms rfl (by decide) d_On_mean_41 (c_On_inLowestTerms _ _ _) rfl (Nat.le_of_ble_eq_true rfl) (by omega) (by omega) (by omega) (fun v S' I'' J'' hq => ?_)
    obtain ⟨⟨g, rfl⟩, rfl, rfl, rfl⟩ := hq
    exact r_lret d_On_mean_44 rfl (by omega) (by omega) (⟨⟨_, rfl⟩, rfl, fr, fj⟩)
  · refine r_ldc2 (pc := 9) cl_On_216 d_On_mean_9 ?_
    exact r_lret d_On_mean_12 rfl (by omega) (by omega) (⟨⟨_, rfl⟩, rfl, qFr.rf, fun _ _ => rfl⟩)
theorem c_On_of {x w : Int32} {c l d : Nat} (hO : isOn S w0 w1 w2 bl) (hw : qW1 w0) (hI : qIsOK I w0) (hc : I 6 1 = nI c) (hc6 : c ≤ 6) (hl : I 6 3 = nI l) (hl6 : l ≤ 6) (hd : I 6 4 = nI d) (hd9 : d ≤ 9999) : qMet E y_On_of b_On_of 4 (some .int) 4 0 0 [.ref (qb E + 0), .int x, .int w] S I J (cRQ S I J w0) := by
  have hO0 := hO
  obtain ⟨oT, oR0, oR1, oR2, oR3, oR5, oR6, oR8, oR9, oR10, hI1, hN, hA, hM3, hRe, hBl, hRo, hAc, tA, tR, tT⟩ := hO
  have hN1 := hN
  have nT := hN.1
  obtain ⟨mT, mA1, mA2, mR0, mR2, mR5, mR6, mR7, mR8, nS, nP, nB, nI0, mRp, mMp⟩ := hN
  refine qMet.of (L := [some (.ref (qb E + 0)), some (.int x), some (.int w), none]) (by decide +kernel) (Nat.le_of_ble_eq_true rfl) rfl ?_
  refine lda_n_4_0 (pc := 0) d_On_of_0 ?_
  refine ldi_n_4_1 (pc := 1) d_On_of_1 ?_
  refine r_callV (pc := 2) (As := [.int x]) (k := 8) (N := 11) (T := T_On) k_On_82 im_On_isMourner se_On_isMourner rfl (by decide) rfl (by decide) d_On_of_2 (by assumption) (c_On_isMourner hO0) rfl (Nat.le_of_ble_eq_true rfl) (by omega) (by omega) (by omega) (fun v S' I' J' hq => ?_)
  obtain ⟨rfl, rfl, rfl, rfl⟩ := hq
  rw [hc]
  refine r_if_ne (pc := 5) (tgt := 10) d_On_of_5 (by decide) (fun c1 => ?_) (fun c1 => ?_)
  · obtain ⟨p, hp, rfl⟩ := qisM_y (by omega) c1
    have hin : vp_in (nI p) 6 := vp_in_nI (by omega) (by omega)
    have hRc : qR S (6 + 1) (nI p).toNatClampNeg = some (qm 6 p) := by rw [qcl (by omega)]; exact mRp p (by omega)
    have hMo : isMo S (qm 6 p) := mMp p (by omega)
    have hMT : qT S (qm 6 p) 2 := hMo.1
    have lo := qm_lo (o := 6) (p := p)
    have hi := qm_hi (o := 6) (p := p) (by omega)
    refine lda_n_4_0 (pc := 10) d_On_of_10 ?_
    refine g_On_23 (pc := 11) rfl d_On_of_11 (by assumption) (by assumption) ?_
    refine g_On_72 (pc := 14) rfl d_On_of_14 (by assumption) (by assumption) ?_
    refine ldi_n_4_1 (pc := 17) d_On_of_17 ?_
    refine r_aald14 (pc := 18) d_On_of_18 (by assumption) (by first | assumption | exact vp_in_nI (by omega) (by omega) | (unfold vp_in; decide)) (by assumption) ?_
    refine sta_n_4_3 (pc := 19) d_On_of_19 rfl ?_
    refine ldi_n_4_2 (pc := 20) d_On_of_20 ?_
    by_cases k0 : w = 0
    · rw [k0]
      refine r_tableIn (pc := 21) (off := 47) (tgt := 68) d_On_of_21 (by decide) (by decide) (by decide +kernel) (by decide) ?_
      refine lda_n_4_3 (pc := 68) d_On_of_68 ?_
      refine g_On_86 (pc := 69) rfl d_On_of_69 (by assumption) ?_
      exact r_iret d_On_of_72 rfl (by omega) (by omega) (⟨⟨_, rfl⟩, rfl, qFr.rf, fun _ _ => rfl⟩)
    by_cases k1 : w = 1
    · rw [k1]
      refine r_tableIn (pc := 21) (off := 52) (tgt := 73) d_On_of_21 (by decide) (by decide) (by decide +kernel) (by decide) ?_
      refine lda_n_4_3 (pc := 73) d_On_of_73 ?_
      refine g_On_89 (pc := 74) rfl d_On_of_74 (by assumption) ?_
      exact r_iret d_On_of_77 rfl (by omega) (by omega) (⟨⟨_, rfl⟩, rfl, qFr.rf, fun _ _ => rfl⟩)
    by_cases k2 : w = 2
    · rw [k2]
      refine r_tableIn (pc := 21) (off := 57) (tgt := 78) d_On_of_21 (by decide) (by decide) (by decide +kernel) (by decide) ?_
      refine lda_n_4_3 (pc := 78) d_On_of_78 ?_
      refine g_On_92 (pc := 79) rfl d_On_of_79 (by assumption) ?_
      exact r_iret d_On_of_82 rfl (by omega) (by omega) (⟨⟨_, rfl⟩, rfl, qFr.rf, fun _ _ => rfl⟩)
    by_cases k3 : w = 3
    · rw [k3]
      refine r_tableIn (pc := 21) (off := 62) (tgt := 83) d_On_of_21 (by decide) (by decide) (by decide +kernel) (by decide) ?_
      refine lda_n_4_3 (pc := 83) d_On_of_83 ?_
      refine g_On_95 (pc := 84) rfl d_On_of_84 (by assumption) ?_
      exact r_iret d_On_of_87 rfl (by omega) (by omega) (⟨⟨_, rfl⟩, rfl, qFr.rf, fun _ _ => rfl⟩)
    by_cases k4 : w = 4
    · rw [k4]
      refine r_tableIn (pc := 21) (off := 67) (tgt := 88) d_On_of_21 (by decide) (by decide) (by decide +kernel) (by decide) ?_
      refine lda_n_4_3 (pc := 88) d_On_of_88 ?_
      refine g_On_98 (pc := 89) rfl d_On_of_89 (by assumption) ?_
      exact r_iret d_On_of_92 rfl (by omega) (by omega) (⟨⟨_, rfl⟩, rfl, qFr.rf, fun _ _ => rfl⟩)
    by_cases k5 : w = 5
    · rw [k5]
      refine r_tableIn (pc := 21) (off := 72) (tgt := 93) d_On_of_21 (by decide) (by decide) (by decide +kernel) (by decide) ?_
      refine lda_n_4_3 (pc := 93) d_On_of_93 ?_
      refine g_On_101 (pc := 94) rfl d_On_of_94 (by assumption) ?_
      refine r_callS (pc := 97) (As := [.int (I (qm 6 p) 6)]) k_On_105 sw_On_bit rfl (by decide) d_On_of_97 (c_On_bit _) rfl (Nat.le_of_ble_eq_true rfl) (by omega) (by omega) (by omega) (fun v S' I' J' hq => ?_)
      obtain ⟨rfl, rfl, rfl, rfl⟩ := hq
      exact r_iret d_On_of_100 rfl (by omega) (by omega) (⟨⟨_, rfl⟩, rfl, qFr.rf, fun _ _ => rfl⟩)
    by_cases k6 : w = 6
    · rw [k6]
      refine r_tableIn (pc := 21) (off := 80) (tgt := 101) d_On_of_21 (by decide) (by decide) (by decide +kernel) (by decide) ?_
      refine lda_n_4_0 (pc := 101) d_On_of_101 ?_
      refine g_On_23 (pc := 102) rfl d_On_of_102 (by assumption) (by assumption) ?_
      refine ldi_n_4_1 (pc := 105) d_On_of_105 ?_
      refine r_callVN (pc := 106) (As := [.int (nI p)]) (k := 3) (N := 9) (T := T_Mg) k_On_109 im_Mg_placeOf se_Mg_placeOf rfl (by decide) rfl (by decide) d_On_of_106 nT (c_Mg_placeOf hN1 hl hl6) rfl (Nat.le_of_ble_eq_true rfl) (by omega) (by omega) (by omega) (fun v S' I' J' hq => ?_)
      obtain ⟨rfl, rfl, rfl, rfl⟩ := hq
      exact r_iret d_On_of_109 rfl (by omega) (by omega) (⟨⟨_, rfl⟩, rfl, qFr.rf, fun _ _ => rfl⟩)
    by_cases k7 : w = 7
    · rw [k7]
      refine r_tableIn (pc := 21) (off := 89) (tgt := 110) d_On_of_21 (by decide) (by decide) (by decide +kernel) (by decide) ?_
      refine lda_n_4_0 (pc := 110) d_On_of_110 ?_
      refine g_On_23 (pc := 111) rfl d_On_of_111 (by assumption) (by assumption) ?_
      refine lda_n_4_3 (pc := 114) d_On_of_114 ?_
      refine r_iconst (pc := 115) (v := 0) d_On_of_115 rfl ?_
      refine r_callVN (pc := 116) (As := [.ref (qb E + qm 6 p), .int (nI 0)]) (k := 3) (N := 9) (T := T_Mg) k_On_113 im_Mg_painOf se_Mg_painOf rfl (by decide) rfl (by decide) d_On_of_116 nT (c_Mg_painOf hN1 hMo (by unfold qW1 at hw; omega) hI hd (by omega)) rfl (Nat.le_of_ble_eq_true rfl) (by omega) (by omega) (by omega) (fun v S' I' J' hq => ?_)
      obtain ⟨rfl, rfl, rfl, rfl⟩ := hq
      exact r_iret d_On_of_119 rfl (by omega) (by omega) (⟨⟨_, rfl⟩, rfl, qFr.rf.fil (Or.inr rfl), fun _ _ => rfl⟩)
    refine r_tableOut (pc := 21) (tgt := 120) d_On_of_21 (by simp only [← Int32.toInt_inj, Int32.reduceToInt] at k0 k1 k2 k3 k4 k5 k6 k7; omega) (by decide) ?_
    refine r_iconst (pc := 120) (v := (-1)) d_On_of_120 rfl ?_
    exact r_iret d_On_of_121 rfl (by omega) (by omega) (⟨⟨_, rfl⟩, rfl, qFr.rf, fun _ _ => rfl⟩)
  · refine r_iconst (pc := 8) (v := (-1)) d_On_of_8 rfl ?_
    exact r_iret d_On_of_9 rfl (by omega) (by omega) (⟨⟨_, rfl⟩, rfl, qFr.rf, fun _ _ => rfl⟩)
theorem c_On_taken {x k : Int32} {c : Nat} (hO : isOn S w0 w1 w2 bl) (hc : I 6 1 = nI c) (hc6 : c ≤ 6) : qMet E y_On_taken b_On_taken 6 (some .int) 2 0 0 [.ref (qb E + 0), .int x, .int k] S I J (fun v S' I' J' => (∃ r, v = some (.int r)) ∧ S = S' ∧ I = I' ∧ J = J') := by
  have hO0 := hO
  obtain ⟨oT, oR0, oR1, oR2, oR3, oR5, oR6, oR8, oR9, oR10, hI1, hN, hA, hM3, hRe, hBl, hRo, hAc, tA, tR, tT⟩ := hO
  have hN0 := hN
  obtain ⟨mT, mA1, mA2, mR0, mR2, mR5, mR6, mR7, mR8, nS, nP, nB, nI0, mRp, mMp⟩ := hN
  refine qMet.of (L := [some (.ref (qb E + 0)), some (.int x), some (.int k), none, none, none]) (by decide +kernel) (Nat.le_of_ble_eq_true rfl) rfl ?_
  refine ldi_n_6_2 (pc := 0) d_On_taken_0 ?_
  refine r_iconst (pc := 1) (v := 0) d_On_taken_1 rfl ?_
  refine r_bipush (pc := 2) (v := 6) d_On_taken_2 rfl ?_
  refine r_callS (pc := 4) (As := [.int k, .int 0, .int 6]) k_On_64 sw_On_within rfl (by decide) d_On_taken_4 (c_On_within _ _ _) rfl (Nat.le_of_ble_eq_true rfl) (by omega) (by omega) (by omega) (fun v S' I' J' hq => ?_)
  obtain ⟨rfl, rfl, rfl, rfl⟩ := hq
  refine r_if_ne (pc := 7) (tgt := 13) d_On_taken_7 (by decide) (fun c0 => ?_) (fun c0 => ?_)
  · refine lda_n_6_0 (pc := 13) d_On_taken_13 ?_
    refine ldi_n_6_1 (pc := 14) d_On_taken_14 ?_
    refine r_callV (pc := 15) (As := [.int x]) (k := 8) (N := 11) (T := T_On) k_On_82 im_On_isMourner se_On_isMourner rfl (by decide) rfl (by decide) d_On_taken_15 (by assumption) (c_On_isMourner hO0) rfl (Nat.le_of_ble_eq_true rfl) (by omega) (by omega) (by omega) (fun v S' I' J' hq => ?_)
    obtain ⟨rfl, rfl, rfl, rfl⟩ := hq
    rw [hc]
    refine r_if_ne (pc := 18) (tgt := 24) d_On_taken_18 (by decide) (fun c1 => ?_) (fun c1 => ?_)
    · obtain ⟨p, hp, rfl⟩ := qisM_y (by omega) c1
      have hin : vp_in (nI p) 6 := vp_in_nI (by omega) (by omega)
      have hRc : qR S (6 + 1) (nI p).toNatClampNeg = some (qm 6 p) := by rw [qcl (by omega)]; exact mRp p (by omega)
      have hMT : qT S (qm 6 p) 2 := (mMp p (by omega)).1
      have fin : ∀ (kd a lf : Int32), qW E y_On_taken b_On_taken (some .int) 2 0 0 (fun v S' I' J' => (∃ r, v = some (.int r)) ∧ S = S' ∧ I = I' ∧ J = J') 0 0 70 [some (.ref (qb E + 0)), some (.int (nI p)), some (.int k), some (.int kd), some (.int a), some (.int lf)] [] S I J := by
        intro kd a lf
        refine ldi_6_4 (pc := 70) d_On_taken_70 ?_
        refine ldi_n_6_2 (pc := 72) d_On_taken_72 ?_
        refine r_icmp_ne (pc := 73) (tgt := 80) d_On_taken_73 (by decide) (fun d1 => ?_) (fun d1 => ?_)
        · refine r_bipush (pc := 80) (v := (-12)) d_On_taken_80 rfl ?_
          exact r_iret d_On_taken_82 rfl (by omega) (by omega) (⟨⟨_, rfl⟩, rfl, rfl, rfl⟩)
        · refine ldi_n_6_3 (pc := 76) d_On_taken_76 ?_
          refine r_goto (pc := 77) (tgt := 82) d_On_taken_77 (by decide) ?_
          exact r_iret d_On_taken_82 rfl (by omega) (by omega) (⟨⟨_, rfl⟩, rfl, rfl, rfl⟩)
      have key : ∀ (m : Nat), m ≤ 7 → ∀ (kd a : Int32), qW E y_On_taken b_On_taken (some .int) 2 0 0 (fun v S' I' J' => (∃ r, v = some (.int r)) ∧ S = S' ∧ I = I' ∧ J = J') 0 0 46 [some (.ref (qb E + 0)), some (.int (nI p)), some (.int k), some (.int kd), some (.int a), some (.int (nI m))] [] S I J := by
        intro m
        induction m with
        | zero =>
          intro _ kd a
          refine ldi_6_5 (pc := 46) d_On_taken_46 ?_
          refine r_if_le (pc := 48) (tgt := 70) d_On_taken_48 (by decide) (fun d1 => ?_) (fun d1 => ?_)
          · exact fin _ _ _
          · exact absurd (by decide) d1
        | succ m ih =>
          intro hm kd a
          refine ldi_6_5 (pc := 46) d_On_taken_46 ?_
          refine r_if_le (pc := 48) (tgt := 70) d_On_taken_48 (by decide) (fun d1 => ?_) (fun d1 => ?_)
          · exact absurd d1 (nI_nle (by omega) (by omega))
          · refine ldi_6_4 (pc := 51) d_On_taken_51 ?_
            refine ldi_n_6_2 (pc := 53) d_On_taken_53 ?_
            refine r_icmp_eq (pc := 54) (tgt := 70) d_On_taken_54 (by decide) (fun d2 => ?_) (fun d2 => ?_)
            · exact fin _ _ _
            · refine ldi_6_4 (pc := 57) d_On_taken_57 ?_
              refine r_callS (pc := 59) (As := [.int a]) k_On_274 sw_On_kindAbove rfl (by decide) d_On_taken_59 (c_On_kindAbove a) rfl (Nat.le_of_ble_eq_true rfl) (by omega) (by omega) (by omega) (fun v S' I' J' hq => ?_)
              obtain ⟨rfl, rfl, rfl, rfl⟩ := hq
              refine sti_6_4 (pc := 62) d_On_taken_62 rfl ?_
              refine inc_6_5 (pc := 64) (w := (-1)) d_On_taken_64 rfl rfl ?_
              refine r_goto (pc := 67) (tgt := 46) d_On_taken_67 (by decide) ?_
              rw [pk_m1]
              exact ih (by omega) _ _
      refine lda_n_6_0 (pc := 24) d_On_taken_24 ?_
      refine g_On_23 (pc := 25) rfl d_On_taken_25 (by assumption) (by assumption) ?_
      refine g_On_72 (pc := 28) rfl d_On_taken_28 (by assumption) (by assumption) ?_
      refine ldi_n_6_1 (pc := 31) d_On_taken_31 ?_
      refine r_aald14 (pc := 32) d_On_taken_32 (by assumption) (by first | assumption | exact vp_in_nI (by omega) (by omega) | (unfold vp_in; decide)) (by assumption) ?_
      refine g_On_86 (pc := 33) rfl d_On_taken_33 (by assumption) ?_
      refine sti_n_6_3 (pc := 36) d_On_taken_36 rfl ?_
      refine ldi_n_6_3 (pc := 37) d_On_taken_37 ?_
      refine sti_6_4 (pc := 38) d_On_taken_38 rfl ?_
      refine r_above (pc := 40) fl_On_271 d_On_taken_40 ?_
      refine r_alen0 (pc := 43) d_On_taken_43 ?_
      refine sti_6_5 (pc := 44) d_On_taken_44 rfl ?_
      exact key 7 (by omega) _ _
    · refine r_bipush (pc := 21) (v := (-11)) d_On_taken_21 rfl ?_
      exact r_iret d_On_taken_23 rfl (by omega) (by omega) (⟨⟨_, rfl⟩, rfl, rfl, rfl⟩)
  · refine r_bipush (pc := 10) (v := (-2)) d_On_taken_10 rfl ?_
    exact r_iret d_On_taken_12 rfl (by omega) (by omega) (⟨⟨_, rfl⟩, rfl, rfl, rfl⟩)
end H6
