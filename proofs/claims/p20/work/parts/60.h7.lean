/-! the object's calls: looked at, judged, acts -/
section H7
variable {E : qE} {S : qSh} {I : qI} {J : qJ} {w0 w1 w2 bl : Nat}
theorem c_On_looked {c z : Nat} (hO : isOn S w0 w1 w2 bl) (hc : I 6 1 = nI c) (hc6 : c ≤ 6) (hz : I 17 3 = nI z) (hz8 : z ≤ 8) : qMet E y_On_looked b_On_looked 3 (some .int) 2 0 0 [.ref (qb E + 0)] S I J (fun v S' I' J' => (∃ r, v = some (.int r)) ∧ S = S' ∧ I = I' ∧ J = J') := by
  have hO0 := hO
  obtain ⟨oT, oR0, oR1, oR2, oR3, oR5, oR6, oR8, oR9, oR10, hI1, hN, hA, hM3, hRe, hBl, hRo, hAc, tA, tR, tT⟩ := hO
  have hN0 := hN
  obtain ⟨mT, mA1, mA2, mR0, mR2, mR5, mR6, mR7, mR8, nS, nP, nB, nI0, mRp, mMp⟩ := hN
  obtain ⟨nT, nA1, nA2, nA3, nR0, nR1, nR2⟩ := nB
  have hz' : I (6 + 11) 3 = nI z := hz
  refine qMet.of (L := [some (.ref (qb E + 0)), none, none]) (by decide +kernel) (Nat.le_of_ble_eq_true rfl) rfl ?_
  have key := qfor (P := fun k => qW E y_On_looked b_On_looked (some .int) 2 0 0 (fun v S' I' J' => (∃ r, v = some (.int r)) ∧ S = S' ∧ I = I' ∧ J = J') 0 0 2 [some (.ref (qb E + 0)), some (.int (nI k)), none] [] S I J) z ?_ ?_ 0 (by omega)
  · refine r_iconst (pc := 0) (v := 0) d_On_looked_0 rfl ?_
    refine sti_n_3_1 (pc := 1) d_On_looked_1 rfl ?_
    exact key
  · refine ldi_n_3_1 (pc := 2) d_On_looked_2 ?_
    refine lda_n_3_0 (pc := 3) d_On_looked_3 ?_
    refine g_On_23 (pc := 4) rfl d_On_looked_4 (by assumption) (by assumption) ?_
    refine g_On_238 (pc := 7) rfl d_On_looked_7 (by assumption) (by assumption) ?_
    refine g_On_205 (pc := 10) rfl d_On_looked_10 (by assumption) ?_
    rw [hz']
    refine r_icmp_ge (pc := 13) (tgt := 72) d_On_looked_13 (by decide) (fun c1 => ?_) (fun c1 => ?_)
    · refine r_bipush (pc := 72) (v := (-5)) d_On_looked_72 rfl ?_
      exact r_iret d_On_looked_74 rfl (by omega) (by omega) (⟨⟨_, rfl⟩, rfl, rfl, rfl⟩)
    · exact absurd (nI_le (Nat.le_refl _) (by omega)) c1
  · intro k hk ih
    have nxt : ∀ b : Int32, qW E y_On_looked b_On_looked (some .int) 2 0 0 (fun v S' I' J' => (∃ r, v = some (.int r)) ∧ S = S' ∧ I = I' ∧ J = J') 0 0 66 [some (.ref (qb E + 0)), some (.int (nI k)), some (.int b)] [] S I J := by
      intro b
      refine inc_3_1 (pc := 66) (w := 1) d_On_looked_66 rfl rfl ?_
      refine r_goto (pc := 69) (tgt := 2) d_On_looked_69 (by decide) ?_
      rw [q1]
      exact qW.forget 2 ih
    have hin1 : vp_in (nI k) 8 := vp_in_nI (by omega) (by omega)
    refine ldi_n_3_1 (pc := 2) d_On_looked_2 ?_
    refine lda_n_3_0 (pc := 3) d_On_looked_3 ?_
    refine g_On_23 (pc := 4) rfl d_On_looked_4 (by assumption) (by assumption) ?_
    refine g_On_238 (pc := 7) rfl d_On_looked_7 (by assumption) (by assumption) ?_
    refine g_On_205 (pc := 10) rfl d_On_looked_10 (by assumption) ?_
    rw [hz']
    refine r_icmp_ge (pc := 13) (tgt := 72) d_On_looked_13 (by decide) (fun c1 => ?_) (fun c1 => ?_)
    · exact absurd c1 (nI_ge hk (by omega))
    · refine lda_n_3_0 (pc := 16) d_On_looked_16 ?_
      refine g_On_23 (pc := 17) rfl d_On_looked_17 (by assumption) (by assumption) ?_
      refine g_On_238 (pc := 20) rfl d_On_looked_20 (by assumption) (by assumption) ?_
      refine g_On_241 (pc := 23) rfl d_On_looked_23 (by assumption) (by assumption) ?_
      refine ldi_n_3_1 (pc := 26) d_On_looked_26 ?_
      refine r_iald (pc := 27) d_On_looked_27 (by assumption) (by first | assumption | exact vp_in_nI (by omega) (by omega) | (unfold vp_in; decide)) ?_
      refine sti_n_3_2 (pc := 28) d_On_looked_28 rfl ?_
      refine lda_n_3_0 (pc := 29) d_On_looked_29 ?_
      refine ldi_n_3_2 (pc := 30) d_On_looked_30 ?_
      generalize I (6 + 11 + 1) (nI k).toNatClampNeg = x
      refine r_callV (pc := 31) (As := [.int x]) (k := 8) (N := 11) (T := T_On) k_On_82 im_On_isMourner se_On_isMourner rfl (by decide) rfl (by decide) d_On_looked_31 (by assumption) (c_On_isMourner hO0) rfl (Nat.le_of_ble_eq_true rfl) (by omega) (by omega) (by omega) (fun v S' I' J' hq => ?_)
      obtain ⟨rfl, rfl, rfl, rfl⟩ := hq
      rw [hc]
      refine r_if_eq (pc := 34) (tgt := 66) d_On_looked_34 (by decide) (fun c2 => ?_) (fun c2 => ?_)
      · exact nxt x
      · obtain ⟨p, hp, rfl⟩ := qisM_y (by omega) c2
        have hin : vp_in (nI p) 6 := vp_in_nI (by omega) (by omega)
        have hRc : qR S (6 + 1) (nI p).toNatClampNeg = some (qm 6 p) := by rw [qcl (by omega)]; exact mRp p (by omega)
        have hMT : qT S (qm 6 p) 2 := (mMp p (by omega)).1
        refine lda_n_3_0 (pc := 37) d_On_looked_37 ?_
        refine g_On_23 (pc := 38) rfl d_On_looked_38 (by assumption) (by assumption) ?_
        refine g_On_72 (pc := 41) rfl d_On_looked_41 (by assumption) (by assumption) ?_
        refine ldi_n_3_2 (pc := 44) d_On_looked_44 ?_
        refine r_aald14 (pc := 45) d_On_looked_45 (by assumption) (by first | assumption | exact vp_in_nI (by omega) (by omega) | (unfold vp_in; decide)) (by assumption) ?_
        refine g_On_98 (pc := 46) rfl d_On_looked_46 (by assumption) ?_
        refine lda_n_3_0 (pc := 49) d_On_looked_49 ?_
        refine g_On_23 (pc := 50) rfl d_On_looked_50 (by assumption) (by assumption) ?_
        refine g_On_238 (pc := 53) rfl d_On_looked_53 (by assumption) (by assumption) ?_
        refine g_On_244 (pc := 56) rfl d_On_looked_56 (by assumption) (by assumption) ?_
        refine ldi_n_3_1 (pc := 59) d_On_looked_59 ?_
        refine r_iald (pc := 60) d_On_looked_60 (by assumption) (by first | assumption | exact vp_in_nI (by omega) (by omega) | (unfold vp_in; decide)) ?_
        refine r_icmp_eq (pc := 61) (tgt := 66) d_On_looked_61 (by decide) (fun c3 => ?_) (fun c3 => ?_)
        · exact nxt _
        · refine ldi_n_3_1 (pc := 64) d_On_looked_64 ?_
          exact r_iret d_On_looked_65 rfl (by omega) (by omega) (⟨⟨_, rfl⟩, rfl, rfl, rfl⟩)
theorem c_On_judge {tp i : Int32} {c : Nat} (hO : isOn S w0 w1 w2 bl) (hc : I 6 1 = nI c) (hc6 : c ≤ 6) (hts : ∀ t, t < 6 → ∃ z, z ≤ 60 ∧ I (102 + 2 * t) 1 = nI z) : qMet E y_On_judge b_On_judge 5 (some .int) 2 0 0 [.ref (qb E + 0), .int tp, .int i] S I J (fun v S' I' J' => (∃ r, v = some (.int r)) ∧ S = S' ∧ I = I' ∧ J = J') := by
  obtain ⟨oT, oR0, oR1, oR2, oR3, oR5, oR6, oR8, oR9, oR10, hI1, hN, hA, hM3, hRe, hBl, hRo, hAc, tA, tR, tT⟩ := hO
  have hN0 := hN
  obtain ⟨mT, mA1, mA2, mR0, mR2, mR5, mR6, mR7, mR8, nS, nP, nB, nI0, mRp, mMp⟩ := hN
  refine qMet.of (L := [some (.ref (qb E + 0)), some (.int tp), some (.int i), none, none]) (by decide +kernel) (Nat.le_of_ble_eq_true rfl) rfl ?_
  refine ldi_n_5_1 (pc := 0) d_On_judge_0 ?_
  refine r_callS (pc := 1) (As := [.int tp]) k_On_247 sw_On_isTape rfl (by decide) d_On_judge_1 (c_On_isTape tp) rfl (Nat.le_of_ble_eq_true rfl) (by omega) (by omega) (by omega) (fun v S' I' J' hq => ?_)
  obtain ⟨rfl, rfl, rfl, rfl⟩ := hq
  refine r_if_ne (pc := 4) (tgt := 9) d_On_judge_4 (by decide) (fun c1 => ?_) (fun c1 => ?_)
  · obtain ⟨t, ht, rfl⟩ := qtape_y c1
    have hRt : qR S 101 (nI t).toNatClampNeg = some (102 + 2 * t) := by rw [qcl (by omega)]; exact tR t ht
    obtain ⟨hT0, hTA, hTR⟩ := tT t ht
    have hin : vp_in (nI t) 6 := vp_in_nI ht (by omega)
    obtain ⟨z, z1, z2⟩ := hts t ht
    have key := qfor (P := fun k => qW E y_On_judge b_On_judge (some .int) 2 0 0 (fun v S' I' J' => (∃ r, v = some (.int r)) ∧ S = S' ∧ I = I' ∧ J = J') 0 0 38 [some (.ref (qb E + 0)), some (.int (nI t)), some (.int i), some (.ref (qb E + (102 + 2 * t))), some (.int (nI k))] [] S I J) c ?_ ?_ 0 (by omega)
    · refine lda_n_5_0 (pc := 9) d_On_judge_9 ?_
      refine g_On_59 (pc := 10) rfl d_On_judge_10 (by assumption) (by assumption) ?_
      refine ldi_n_5_1 (pc := 13) d_On_judge_13 ?_
      refine r_aald15 (pc := 14) d_On_judge_14 (by assumption) (by first | assumption | exact vp_in_nI (by omega) (by omega) | (unfold vp_in; decide)) (by assumption) ?_
      refine sta_n_5_3 (pc := 15) d_On_judge_15 rfl ?_
      refine lda_n_5_3 (pc := 16) d_On_judge_16 ?_
      refine g_On_250 (pc := 17) rfl d_On_judge_17 (by assumption) ?_
      refine r_iconst (pc := 20) (v := (-1)) d_On_judge_20 rfl ?_
      refine r_icmp_eq (pc := 21) (tgt := 35) d_On_judge_21 (by decide) (fun c2 => ?_) (fun c2 => ?_)
      · refine r_iconst (pc := 35) (v := 0) d_On_judge_35 rfl ?_
        refine sti_5_4 (pc := 36) d_On_judge_36 rfl ?_
        exact key
      · refine lda_n_5_3 (pc := 24) d_On_judge_24 ?_
        refine g_On_250 (pc := 25) rfl d_On_judge_25 (by assumption) ?_
        refine r_iconst (pc := 28) (v := 2) d_On_judge_28 rfl ?_
        refine r_icmp_eq (pc := 29) (tgt := 35) d_On_judge_29 (by decide) (fun c3 => ?_) (fun c3 => ?_)
        · refine r_iconst (pc := 35) (v := 0) d_On_judge_35 rfl ?_
          refine sti_5_4 (pc := 36) d_On_judge_36 rfl ?_
          exact key
        · refine r_bipush (pc := 32) (v := (-12)) d_On_judge_32 rfl ?_
          exact r_iret d_On_judge_34 rfl (by omega) (by omega) (⟨⟨_, rfl⟩, rfl, rfl, rfl⟩)
    · refine ldi_5_4 (pc := 38) d_On_judge_38 ?_
      refine lda_n_5_0 (pc := 40) d_On_judge_40 ?_
      refine g_On_23 (pc := 41) rfl d_On_judge_41 (by assumption) (by assumption) ?_
      refine g_On_68 (pc := 44) rfl d_On_judge_44 (by assumption) ?_
      rw [hc]
      refine r_icmp_ge (pc := 47) (tgt := 107) d_On_judge_47 (by decide) (fun c4 => ?_) (fun c4 => ?_)
      · refine r_bipush (pc := 107) (v := (-5)) d_On_judge_107 rfl ?_
        exact r_iret d_On_judge_109 rfl (by omega) (by omega) (⟨⟨_, rfl⟩, rfl, rfl, rfl⟩)
      · exact absurd (nI_le (Nat.le_refl _) (by omega)) c4
    · intro k hk ih
      refine ldi_5_4 (pc := 38) d_On_judge_38 ?_
      refine lda_n_5_0 (pc := 40) d_On_judge_40 ?_
      refine g_On_23 (pc := 41) rfl d_On_judge_41 (by assumption) (by assumption) ?_
      refine g_On_68 (pc := 44) rfl d_On_judge_44 (by assumption) ?_
      rw [hc]
      refine r_icmp_ge (pc := 47) (tgt := 107) d_On_judge_47 (by decide) (fun c4 => ?_) (fun c4 => ?_)
      · exact absurd c4 (nI_ge hk (by omega))
      · have hinp : vp_in (nI k) 6 := vp_in_nI (by omega) (by omega)
        have hRc : qR S (6 + 1) (nI k).toNatClampNeg = some (qm 6 k) := by rw [qcl (by omega)]; exact mRp k (by omega)
        have hMT : qT S (qm 6 k) 2 := (mMp k (by omega)).1
        refine ldi_n_5_2 (pc := 50) d_On_judge_50 ?_
        refine r_if_lt (pc := 51) (tgt := 65) d_On_judge_51 (by decide) (fun c5 => ?_) (fun c5 => ?_)
        · refine r_bipush (pc := 65) (v := 100) d_On_judge_65 rfl ?_
          refine ldi_5_4 (pc := 67) d_On_judge_67 ?_
          refine r_iadd (pc := 69) d_On_judge_69 ?_
          exact r_iret d_On_judge_70 rfl (by omega) (by omega) (⟨⟨_, rfl⟩, rfl, rfl, rfl⟩)
        · obtain ⟨a, a1, rfl⟩ := nI_of c5
          refine ldi_n_5_2 (pc := 54) d_On_judge_54 ?_
          refine lda_n_5_3 (pc := 55) d_On_judge_55 ?_
          refine g_On_253 (pc := 56) rfl d_On_judge_56 (by assumption) ?_
          refine ldi_5_4 (pc := 59) d_On_judge_59 ?_
          refine r_isub (pc := 61) d_On_judge_61 ?_
          rw [z2]
          refine r_icmp_lt (pc := 62) (tgt := 71) d_On_judge_62 (by decide) (fun c6 => ?_) (fun c6 => ?_)
          · have hk2 : k ≤ z := by
              rcases Nat.lt_or_ge z k with q | q
              · have := sub_neg60 z (by omega) k (by omega) q
                have n0 := nI_pos a1
                exact absurd (Int32.lt_trans c6 this) n0
              · exact q
            rw [nI_subN hk2] at c6
            have hlt : a < z - k := (nI_ltI a1 (by omega)).mp c6
            have hinx : vp_in (nI a + nI k) 60 := by rw [nI_add]; exact vp_in_nI (by omega) (by omega)
            refine lda_n_5_3 (pc := 71) d_On_judge_71 ?_
            refine g_On_254 (pc := 72) rfl d_On_judge_72 (by assumption) (by assumption) ?_
            refine ldi_n_5_2 (pc := 75) d_On_judge_75 ?_
            refine ldi_5_4 (pc := 76) d_On_judge_76 ?_
            refine r_iadd (pc := 78) d_On_judge_78 ?_
            refine r_lald (pc := 79) d_On_judge_79 (by assumption) (by first | assumption | exact vp_in_nI (by omega) (by omega) | (unfold vp_in; decide)) ?_
            refine lda_n_5_0 (pc := 80) d_On_judge_80 ?_
            refine g_On_23 (pc := 81) rfl d_On_judge_81 (by assumption) (by assumption) ?_
            refine g_On_72 (pc := 84) rfl d_On_judge_84 (by assumption) (by assumption) ?_
            refine ldi_5_4 (pc := 87) d_On_judge_87 ?_
            refine r_aald14 (pc := 89) d_On_judge_89 (by assumption) (by first | assumption | exact vp_in_nI (by omega) (by omega) | (unfold vp_in; decide)) (by assumption) ?_
            refine g_On_98 (pc := 90) rfl d_On_judge_90 (by assumption) ?_
            refine r_i2l (pc := 93) d_On_judge_93 ?_
            refine r_lcmp (pc := 94) d_On_judge_94 ?_
            refine r_if_eq (pc := 95) (tgt := 101) d_On_judge_95 (by decide) (fun c7 => ?_) (fun c7 => ?_)
            · refine inc_5_4 (pc := 101) (w := 1) d_On_judge_101 rfl rfl ?_
              refine r_goto (pc := 104) (tgt := 38) d_On_judge_104 (by decide) ?_
              rw [q1]
              exact ih
            · refine ldi_5_4 (pc := 98) d_On_judge_98 ?_
              exact r_iret d_On_judge_100 rfl (by omega) (by omega) (⟨⟨_, rfl⟩, rfl, rfl, rfl⟩)
          · refine r_bipush (pc := 65) (v := 100) d_On_judge_65 rfl ?_
            refine ldi_5_4 (pc := 67) d_On_judge_67 ?_
            refine r_iadd (pc := 69) d_On_judge_69 ?_
            exact r_iret d_On_judge_70 rfl (by omega) (by omega) (⟨⟨_, rfl⟩, rfl, rfl, rfl⟩)
  · refine r_iconst (pc := 7) (v := (-1)) d_On_judge_7 rfl ?_
    exact r_iret d_On_judge_8 rfl (by omega) (by omega) (⟨⟨_, rfl⟩, rfl, rfl, rfl⟩)
theorem c_On_act {x a y : Int32} {c : Nat} (hO : isOn S w0 w1 w2 bl) (hc : I 6 1 = nI c) (hc6 : c ≤ 6) : qMet E y_On_act b_On_act 5 (some .int) 25 0 0 [.ref (qb E + 0), .int x, .int a, .int y] S I J (fun v S' I' J' => (∃ r, v = some (.int r)) ∧ S = S' ∧ qFr (fun b => b = 99 ∨ b = 100) I I' ∧ J = J') := by
  have hO0 := hO
  obtain ⟨oT, oR0, oR1, oR2, oR3, oR5, oR6, oR8, oR9, oR10, hI1, hN, hA, hM3, hRe, hBl, hRo, hAc, tA, tR, tT⟩ := hO
  have hN0 := hN
  obtain ⟨mT, mA1, mA2, mR0, mR2, mR5, mR6, mR7, mR8, nS, nP, nB, nI0, mRp, mMp⟩ := hN
  have aT := hAc.1
  refine qMet.of (L := [some (.ref (qb E + 0)), some (.int x), some (.int a), some (.int y), none]) (by decide +kernel) (Nat.le_of_ble_eq_true rfl) rfl ?_
  have fr1 : qFr (fun b => b = 99 ∨ b = 100) I (qup I 99 1 0) := qFr.rf.up (Or.inl rfl)
  have hc' : qup I 99 1 0 6 1 = nI c := by rw [qup_o (by decide)]; exact hc
  refine lda_n_5_0 (pc := 0) d_On_act_0 ?_
  refine g_On_53 (pc := 1) rfl d_On_act_1 (by assumption) (by assumption) ?_
  refine r_iconst (pc := 4) (v := 0) d_On_act_4 rfl ?_
  refine p_On_261 (pc := 5) rfl d_On_act_5 (by assumption) ?_
  refine lda_n_5_0 (pc := 8) d_On_act_8 ?_
  refine ldi_n_5_1 (pc := 9) d_On_act_9 ?_
  refine r_callV (pc := 10) (As := [.int x]) (k := 8) (N := 11) (T := T_On) k_On_82 im_On_isMourner se_On_isMourner rfl (by decide) rfl (by decide) d_On_act_10 (by assumption) (c_On_isMourner hO0) rfl (Nat.le_of_ble_eq_true rfl) (by omega) (by omega) (by omega) (fun v S' I' J' hq => ?_)
  obtain ⟨rfl, rfl, rfl, rfl⟩ := hq
  rw [hc']
  refine r_if_eq (pc := 13) (tgt := 25) d_On_act_13 (by decide) (fun c1 => ?_) (fun c1 => ?_)
  · refine r_iconst (pc := 25) (v := 0) d_On_act_25 rfl ?_
    exact r_iret d_On_act_26 rfl (by omega) (by omega) (⟨⟨_, rfl⟩, rfl, fr1, rfl⟩)
  · refine ldi_n_5_2 (pc := 16) d_On_act_16 ?_
    refine r_iconst (pc := 17) (v := 0) d_On_act_17 rfl ?_
    refine r_iconst (pc := 18) (v := 2) d_On_act_18 rfl ?_
    refine r_callS (pc := 19) (As := [.int a, .int 0, .int 2]) k_On_64 sw_On_within rfl (by decide) d_On_act_19 (c_On_within _ _ _) rfl (Nat.le_of_ble_eq_true rfl) (by omega) (by omega) (by omega) (fun v S' I' J' hq => ?_)
    obtain ⟨rfl, rfl, rfl, rfl⟩ := hq
    refine r_if_ne (pc := 22) (tgt := 27) d_On_act_22 (by decide) (fun c2 => ?_) (fun c2 => ?_)
    · obtain ⟨p, hp, rfl⟩ := qisM_y (by omega) c1
      have hin : vp_in (nI p) 6 := vp_in_nI (by omega) (by omega)
      have hRc : qR S (6 + 1) (nI p).toNatClampNeg = some (qm 6 p) := by rw [qcl (by omega)]; exact mRp p (by omega)
      have hMo : isMo S (qm 6 p) := mMp p (by omega)
      have hMT : qT S (qm 6 p) 2 := hMo.1
      have hi := qm_hi (o := 6) (p := p) (by omega)
      refine lda_n_5_0 (pc := 27) d_On_act_27 ?_
      refine g_On_23 (pc := 28) rfl d_On_act_28 (by assumption) (by assumption) ?_
      refine g_On_72 (pc := 31) rfl d_On_act_31 (by assumption) (by assumption) ?_
      refine ldi_n_5_1 (pc := 34) d_On_act_34 ?_
      refine r_aald14 (pc := 35) d_On_act_35 (by assumption) (by first | assumption | exact vp_in_nI (by omega) (by omega) | (unfold vp_in; decide)) (by assumption) ?_
      refine sta_5_4 (pc := 36) d_On_act_36 rfl ?_
      refine lda_n_5_0 (pc := 38) d_On_act_38 ?_
      refine g_On_53 (pc := 39) rfl d_On_act_39 (by assumption) (by assumption) ?_
      refine lda_5_4 (pc := 42) d_On_act_42 ?_
      refine lda_5_4 (pc := 44) d_On_act_44 ?_
      refine g_On_86 (pc := 46) rfl d_On_act_46 (by assumption) ?_
      refine ldi_n_5_2 (pc := 49) d_On_act_49 ?_
      refine ldi_n_5_3 (pc := 50) d_On_act_50 ?_
      refine r_iconst (pc := 51) (v := 0) d_On_act_51 rfl ?_
      refine r_callVN (pc := 52) (As := [.ref (qb E + qm 6 p), .int (qup I 99 1 0 (qm 6 p) 1), .int a, .int y, .int (nI 0)]) (k := 0) (N := 2) (T := T_Ac) k_On_264 im_Ac_body se_Ac_body rfl (by decide) rfl (by decide) d_On_act_52 aT (c_Ac_body hAc hMo (by omega) (by omega) 21 0 _ _ _ _ 0 rfl (by rw [qup_at]; rfl) (by decide)) rfl (Nat.le_of_ble_eq_true rfl) (by omega) (by omega) (by omega) (fun v S' I' J' hq => ?_)
      obtain ⟨rfl, rfl, rfl, rfl⟩ := hq
      exact r_iret d_On_act_55 rfl (by omega) (by omega) (⟨⟨_, rfl⟩, rfl, fun b hb => (qtrace_o (fun e => hb (Or.inl e)) (fun e => hb (Or.inr e)) _ _).trans (fr1 b hb), rfl⟩)
    · refine r_iconst (pc := 25) (v := 0) d_On_act_25 rfl ?_
      exact r_iret d_On_act_26 rfl (by omega) (by omega) (⟨⟨_, rfl⟩, rfl, fr1, rfl⟩)
end H7
