/-! what is told, odds and means on a fresh object -/
section ON8
variable {E : qE} {S : qSh} {I : qI} {J : qJ}
def a_On_told (x : Int32) : Int32 := (if x = 0 then 0 else (if x = 1 then 0 else (if x = 2 then 0 else (if x = 3 then 0 else (if x = 4 then 0 else (if x = 5 then (-5) else (if x = 6 then (-5) else (if x = 7 then (-5) else (if x = 8 then (-5) else (-1))))))))))
theorem k_On_told {x : Int32} (hC : qFc S I) : qMet E y_On_told b_On_told 2 (some .int) 6 0 0 [.ref (qb E + 0), .int x] S I J (fun r S' I' J' => r = some (.int (a_On_told x)) ∧ S = S' ∧ ∀ a, 114 ≤ a → I' a = I a) := by
  have hC0 := hC
  obtain ⟨hO, hZ, hZ2, hZ3, hZ4, hTs, hTz, hMz⟩ := hC
  have hO2 := hO
  obtain ⟨oT, oR0, oR1, oR2, oR3, oR5, oR6, oR8, oR9, oR10, hI1, hN, hA, hM3, hRe, hBl, hRo, hAc, tA, tR, tT⟩ := hO2
  have hN0 := hN
  obtain ⟨mT, mA1, mA2, mR0, mR2, mR5, mR6, mR7, mR8, nS, nP, nB, nI0, mRp, mMp⟩ := hN
  refine qMet.of (L := [some (.ref (qb E + 0)), some (.int x)]) (by decide +kernel) (Nat.le_of_ble_eq_true rfl) rfl ?_
  refine ldi_n_2_1 (pc := 0) d_On_told_0 ?_
  by_cases e1 : x = 0
  · refine r_tableIn (pc := 1) (off := 51) (tgt := 52) d_On_told_1 (by rw [e1]; decide) (by rw [e1]; decide) (by rw [e1]; decide +kernel) (by decide) ?_
    refine lda_n_2_0 (pc := 52) d_On_told_52 ?_
    refine g_On_23 (pc := 53) rfl d_On_told_53 (oT) (by assumption) ?_
    refine g_On_148 (pc := 56) rfl d_On_told_56 (mT) ?_
    refine r_top (v := 0) (by exact hZ 6 4 (by decide)) ?_
    exact r_iret d_On_told_59 rfl (by omega) (by omega) ⟨(by rw [a_On_told, if_pos e1]), rfl, fun _ _ => rfl⟩
  · by_cases e2 : x = 1
    · refine r_tableIn (pc := 1) (off := 59) (tgt := 60) d_On_told_1 (by rw [e2]; decide) (by rw [e2]; decide) (by rw [e2]; decide +kernel) (by decide) ?_
      refine lda_n_2_0 (pc := 60) d_On_told_60 ?_
      refine g_On_23 (pc := 61) rfl d_On_told_61 (oT) (by assumption) ?_
      refine g_On_145 (pc := 64) rfl d_On_told_64 (mT) (by assumption) ?_
      refine g_On_151 (pc := 67) rfl d_On_told_67 (hI1.1) ?_
      refine r_top (v := 0) (by exact hZ 1 5 (by decide)) ?_
      exact r_iret d_On_told_70 rfl (by omega) (by omega) ⟨(by rw [a_On_told, if_neg e1, if_pos e2]), rfl, fun _ _ => rfl⟩
    · by_cases e3 : x = 2
      · refine r_tableIn (pc := 1) (off := 70) (tgt := 71) d_On_told_1 (by rw [e3]; decide) (by rw [e3]; decide) (by rw [e3]; decide +kernel) (by decide) ?_
        refine lda_n_2_0 (pc := 71) d_On_told_71 ?_
        refine g_On_23 (pc := 72) rfl d_On_told_72 (oT) (by assumption) ?_
        refine lda_n_2_0 (pc := 75) d_On_told_75 ?_
        refine g_On_23 (pc := 76) rfl d_On_told_76 (oT) (by assumption) ?_
        refine g_On_148 (pc := 79) rfl d_On_told_79 (mT) ?_
        refine r_top (v := 0) (by exact hZ 6 4 (by decide)) ?_
        refine r_callVN (pc := 82) (As := [.int 0]) (k := 3) (N := 9) (T := T_Mg) k_On_154 im_Mg_isLost se_Mg_isLost rfl (by decide) rfl (by decide) d_On_told_82 mT (c_Mg_isLost hN0) rfl (Nat.le_of_ble_eq_true rfl) (by omega) (by omega) (by omega) (fun v' S' I' J' hq => ?_)
        obtain ⟨rfl, rfl, rfl, rfl⟩ := hq
        refine r_top (v := 0) (qlost_0 (hZ 1 5 (by decide))) ?_
        refine r_callS (pc := 85) (As := [.int 0]) k_On_105 sw_On_bit rfl (by decide) d_On_told_85 (c_On_bit _) rfl (Nat.le_of_ble_eq_true rfl) (by omega) (by omega) (by omega) (fun v' S' I' J' hq => ?_)
        obtain ⟨rfl, rfl, rfl, rfl⟩ := hq
        refine r_top (v := 0) (by decide) ?_
        exact r_iret d_On_told_88 rfl (by omega) (by omega) ⟨(by rw [a_On_told, if_neg e1, if_neg e2, if_pos e3]), rfl, fun _ _ => rfl⟩
      · by_cases e4 : x = 3
        · refine r_tableIn (pc := 1) (off := 88) (tgt := 89) d_On_told_1 (by rw [e4]; decide) (by rw [e4]; decide) (by rw [e4]; decide +kernel) (by decide) ?_
          refine lda_n_2_0 (pc := 89) d_On_told_89 ?_
          refine g_On_23 (pc := 90) rfl d_On_told_90 (oT) (by assumption) ?_
          refine r_callVN (pc := 93) (As := []) (k := 3) (N := 9) (T := T_Mg) k_On_157 im_Mg_hurtOfAll se_Mg_hurtOfAll rfl (by decide) rfl (by decide) d_On_told_93 mT (c_Mg_hurtOfAll hN0 hC0.ok.1) rfl (Nat.le_of_ble_eq_true rfl) (by omega) (by omega) (by omega) (fun v' S' I' J' hq => ?_)
          obtain ⟨rfl, rfl, rfl, rfl⟩ := hq
          refine r_top (v := 0) (qhurts_0 (hZ 6 1 (by decide))) ?_
          exact r_iret d_On_told_96 rfl (by omega) (by omega) ⟨(by rw [a_On_told, if_neg e1, if_neg e2, if_neg e3, if_pos e4]), rfl, fun _ _ => rfl⟩
        · by_cases e5 : x = 4
          · refine r_tableIn (pc := 1) (off := 96) (tgt := 97) d_On_told_1 (by rw [e5]; decide) (by rw [e5]; decide) (by rw [e5]; decide +kernel) (by decide) ?_
            refine lda_n_2_0 (pc := 97) d_On_told_97 ?_
            refine g_On_23 (pc := 98) rfl d_On_told_98 (oT) (by assumption) ?_
            refine r_callVN (pc := 101) (As := []) (k := 3) (N := 9) (T := T_Mg) k_On_161 im_Mg_howManyDone se_Mg_howManyDone rfl (by decide) rfl (by decide) d_On_told_101 mT (c_Mg_howManyDone hN0 hC0.ok.1) rfl (Nat.le_of_ble_eq_true rfl) (by omega) (by omega) (by omega) (fun v' S' I' J' hq => ?_)
            obtain ⟨rfl, rfl, rfl, rfl⟩ := hq
            refine r_top (v := 0) (qdones_0 (hZ 6 1 (by decide))) ?_
            exact r_iret d_On_told_104 rfl (by omega) (by omega) ⟨(by rw [a_On_told, if_neg e1, if_neg e2, if_neg e3, if_neg e4, if_pos e5]), rfl, fun _ _ => rfl⟩
          · by_cases e6 : x = 5
            · refine r_tableIn (pc := 1) (off := 104) (tgt := 105) d_On_told_1 (by rw [e6]; decide) (by rw [e6]; decide) (by rw [e6]; decide +kernel) (by decide) ?_
              refine lda_n_2_0 (pc := 105) d_On_told_105 ?_
              refine g_On_23 (pc := 106) rfl d_On_told_106 (oT) (by assumption) ?_
              refine r_callVN (pc := 109) (As := []) (k := 3) (N := 9) (T := T_Mg) k_On_164 im_Mg_hasDay se_Mg_hasDay rfl (by decide) rfl (by decide) d_On_told_109 mT (c_Mg_hasDay hN0 hC0.ok.1) rfl (Nat.le_of_ble_eq_true rfl) (by omega) (by omega) (by omega) (fun v' S' I' J' hq => ?_)
              obtain ⟨rfl, rfl, rfl, rfl⟩ := hq
              refine r_top (v := (-5)) (qhas_0 (hZ 6 3 (by decide))) ?_
              exact r_iret d_On_told_112 rfl (by omega) (by omega) ⟨(by rw [a_On_told, if_neg e1, if_neg e2, if_neg e3, if_neg e4, if_neg e5, if_pos e6]), rfl, fun _ _ => rfl⟩
            · by_cases e7 : x = 6
              · refine r_tableIn (pc := 1) (off := 112) (tgt := 113) d_On_told_1 (by rw [e7]; decide) (by rw [e7]; decide) (by rw [e7]; decide +kernel) (by decide) ?_
                refine lda_n_2_0 (pc := 113) d_On_told_113 ?_
                refine g_On_46 (pc := 114) rfl d_On_told_114 (oT) (by assumption) ?_
                refine lda_n_2_0 (pc := 117) d_On_told_117 ?_
                refine g_On_23 (pc := 118) rfl d_On_told_118 (oT) (by assumption) ?_
                refine r_callVN (pc := 121) (As := [.ref (qb E + 6)]) (k := 6) (N := 10) (T := T_Ro) k_On_167 im_Ro_agreed se_Ro_agreed rfl (by decide) rfl (by decide) d_On_told_121 hRo.1 (c_Ro_agreed (D := 0) (l := 0) hRo hN0 hC0.ok.1 hC0.ok.2 hp6 (by omega) (by rw [hZ 6 3 (by decide), q0]) (by omega)) rfl (Nat.le_of_ble_eq_true rfl) (by omega) (by omega) (by omega) (fun v' S' I1r J' hq => ?_)
                obtain ⟨r, rfl, rfl, hI1r, rfl, hr⟩ := hq
                have hr := hr rfl
                subst hr
                exact r_iret d_On_told_124 rfl (by omega) (by omega) ⟨(by rw [a_On_told, if_neg e1, if_neg e2, if_neg e3, if_neg e4, if_neg e5, if_neg e6, if_pos e7]), rfl, fun a ha => by rw [hI1r a (by unfold qPr; omega)]⟩
              · by_cases e8 : x = 7
                · refine r_tableIn (pc := 1) (off := 124) (tgt := 125) d_On_told_1 (by rw [e8]; decide) (by rw [e8]; decide) (by rw [e8]; decide +kernel) (by decide) ?_
                  refine lda_n_2_0 (pc := 125) d_On_told_125 ?_
                  refine g_On_46 (pc := 126) rfl d_On_told_126 (oT) (by assumption) ?_
                  refine lda_n_2_0 (pc := 129) d_On_told_129 ?_
                  refine g_On_23 (pc := 130) rfl d_On_told_130 (oT) (by assumption) ?_
                  refine r_iconst (pc := 133) (v := 0) d_On_told_133 rfl ?_
                  refine r_callVN (pc := 134) (As := [.ref (qb E + 6), .int 0]) (k := 6) (N := 10) (T := T_Ro) k_On_171 im_Ro_dear se_Ro_dear rfl (by decide) rfl (by decide) d_On_told_134 hRo.1 (c_Ro_dear (D := 0) (c := 0) hRo hN0 hC0.ok.1 hC0.ok.2 hp6 (by omega) (by rw [hZ 6 1 (by decide), q0]) (by omega)) rfl (Nat.le_of_ble_eq_true rfl) (by omega) (by omega) (by omega) (fun v' S' I2r J' hq => ?_)
                  obtain ⟨r, rfl, rfl, hI2r, rfl, hr⟩ := hq
                  have hr := hr rfl
                  subst hr
                  exact r_iret d_On_told_137 rfl (by omega) (by omega) ⟨(by rw [a_On_told, if_neg e1, if_neg e2, if_neg e3, if_neg e4, if_neg e5, if_neg e6, if_neg e7, if_pos e8]), rfl, fun a ha => by rw [hI2r a (by unfold qPr; omega)]⟩
                · by_cases e9 : x = 8
                  · refine r_tableIn (pc := 1) (off := 137) (tgt := 138) d_On_told_1 (by rw [e9]; decide) (by rw [e9]; decide) (by rw [e9]; decide +kernel) (by decide) ?_
                    refine lda_n_2_0 (pc := 138) d_On_told_138 ?_
                    refine g_On_46 (pc := 139) rfl d_On_told_139 (oT) (by assumption) ?_
                    refine lda_n_2_0 (pc := 142) d_On_told_142 ?_
                    refine g_On_23 (pc := 143) rfl d_On_told_143 (oT) (by assumption) ?_
                    refine r_iconst (pc := 146) (v := 1) d_On_told_146 rfl ?_
                    refine r_callVN (pc := 147) (As := [.ref (qb E + 6), .int 1]) (k := 6) (N := 10) (T := T_Ro) k_On_171 im_Ro_dear se_Ro_dear rfl (by decide) rfl (by decide) d_On_told_147 hRo.1 (c_Ro_dear (D := 0) (c := 0) hRo hN0 hC0.ok.1 hC0.ok.2 hp6 (by omega) (by rw [hZ 6 1 (by decide), q0]) (by omega)) rfl (Nat.le_of_ble_eq_true rfl) (by omega) (by omega) (by omega) (fun v' S' I3r J' hq => ?_)
                    obtain ⟨r, rfl, rfl, hI3r, rfl, hr⟩ := hq
                    have hr := hr rfl
                    subst hr
                    exact r_iret d_On_told_150 rfl (by omega) (by omega) ⟨(by rw [a_On_told, if_neg e1, if_neg e2, if_neg e3, if_neg e4, if_neg e5, if_neg e6, if_neg e7, if_neg e8, if_pos e9]), rfl, fun a ha => by rw [hI3r a (by unfold qPr; omega)]⟩
                  · refine r_tableOut (pc := 1) (tgt := 151) d_On_told_1 (by simp only [← Int32.toInt_inj, Int32.reduceToInt] at e1 e2 e3 e4 e5 e6 e7 e8 e9; omega) (by decide) ?_
                    refine r_iconst (pc := 151) (v := (-1)) d_On_told_151 rfl ?_
                    exact r_iret d_On_told_152 rfl (by omega) (by omega) ⟨(by rw [a_On_told, if_neg e1, if_neg e2, if_neg e3, if_neg e4, if_neg e5, if_neg e6, if_neg e7, if_neg e8, if_neg e9]), rfl, fun _ _ => rfl⟩
theorem c_On_cd11  : qMet E y_On_commonDivisor b_On_commonDivisor 7 (some .long) 0 0 0 [.long 1, .long 1] S I J (qPl S I J 1) := by
  refine qMet.of (L := [some (.long 1), none, some (.long 1), none, none, none, none]) (by decide +kernel) (Nat.le_of_ble_eq_true rfl) rfl ?_
  refine r_bipush (pc := 0) (v := 100) d_On_commonDivisor_0 rfl ?_
  refine sti_7_4 (pc := 2) d_On_commonDivisor_2 rfl ?_
  refine ldi_7_4 (pc := 4) d_On_commonDivisor_4 ?_
  refine r_if_le (pc := 6) (tgt := 31) d_On_commonDivisor_6 (by decide) (fun c => absurd c (by decide)) (fun _ => ?_)
  refine ldl_n_7_2 (pc := 9) d_On_commonDivisor_9 ?_
  refine r_lconst (pc := 10) (v := 0) d_On_commonDivisor_10 rfl ?_
  refine r_lcmp (pc := 11) d_On_commonDivisor_11 ?_
  refine r_top (v := 1) (by decide) ?_
  refine r_if_eq (pc := 12) (tgt := 31) d_On_commonDivisor_12 (by decide) (fun c => absurd c (by decide)) (fun _ => ?_)
  refine ldl_n_7_0 (pc := 15) d_On_commonDivisor_15 ?_
  refine ldl_n_7_2 (pc := 16) d_On_commonDivisor_16 ?_
  refine r_lrem (pc := 17) d_On_commonDivisor_17 (by decide) ?_
  refine r_topJ (v := 0) (by decide) ?_
  refine stl_7_5 (pc := 18) d_On_commonDivisor_18 rfl ?_
  refine ldl_n_7_2 (pc := 20) d_On_commonDivisor_20 ?_
  refine stl_n_7_0 (pc := 21) d_On_commonDivisor_21 ?_
  refine ldl_7_5 (pc := 22) d_On_commonDivisor_22 ?_
  refine stl_n_7_2 (pc := 24) d_On_commonDivisor_24 rfl ?_
  refine inc_7_4 (pc := 25) (w := (-1)) d_On_commonDivisor_25 rfl rfl ?_
  rw [show (100 : Int32) + (-1) = 99 from by decide]
  refine r_goto (pc := 28) (tgt := 4) d_On_commonDivisor_28 (by decide) ?_
  refine ldi_7_4 (pc := 4) d_On_commonDivisor_4 ?_
  refine r_if_le (pc := 6) (tgt := 31) d_On_commonDivisor_6 (by decide) (fun c => absurd c (by decide)) (fun _ => ?_)
  refine ldl_n_7_2 (pc := 9) d_On_commonDivisor_9 ?_
  refine r_lconst (pc := 10) (v := 0) d_On_commonDivisor_10 rfl ?_
  refine r_lcmp (pc := 11) d_On_commonDivisor_11 ?_
  refine r_top (v := 0) (by decide) ?_
  refine r_if_eq (pc := 12) (tgt := 31) d_On_commonDivisor_12 (by decide) (fun _ => ?_) (fun c => absurd (by decide) c)
  refine ldl_n_7_0 (pc := 31) d_On_commonDivisor_31 ?_
  exact r_lret d_On_commonDivisor_32 rfl (by omega) (by omega) ⟨rfl, rfl, rfl, rfl⟩
theorem c_On_cd01  : qMet E y_On_commonDivisor b_On_commonDivisor 7 (some .long) 0 0 0 [.long 0, .long 1] S I J (qPl S I J 1) := by
  refine qMet.of (L := [some (.long 0), none, some (.long 1), none, none, none, none]) (by decide +kernel) (Nat.le_of_ble_eq_true rfl) rfl ?_
  refine r_bipush (pc := 0) (v := 100) d_On_commonDivisor_0 rfl ?_
  refine sti_7_4 (pc := 2) d_On_commonDivisor_2 rfl ?_
  refine ldi_7_4 (pc := 4) d_On_commonDivisor_4 ?_
  refine r_if_le (pc := 6) (tgt := 31) d_On_commonDivisor_6 (by decide) (fun c => absurd c (by decide)) (fun _ => ?_)
  refine ldl_n_7_2 (pc := 9) d_On_commonDivisor_9 ?_
  refine r_lconst (pc := 10) (v := 0) d_On_commonDivisor_10 rfl ?_
  refine r_lcmp (pc := 11) d_On_commonDivisor_11 ?_
  refine r_top (v := 1) (by decide) ?_
  refine r_if_eq (pc := 12) (tgt := 31) d_On_commonDivisor_12 (by decide) (fun c => absurd c (by decide)) (fun _ => ?_)
  refine ldl_n_7_0 (pc := 15) d_On_commonDivisor_15 ?_
  refine ldl_n_7_2 (pc := 16) d_On_commonDivisor_16 ?_
  refine r_lrem (pc := 17) d_On_commonDivisor_17 (by decide) ?_
  refine r_topJ (v := 0) (by decide) ?_
  refine stl_7_5 (pc := 18) d_On_commonDivisor_18 rfl ?_
  refine ldl_n_7_2 (pc := 20) d_On_commonDivisor_20 ?_
  refine stl_n_7_0 (pc := 21) d_On_commonDivisor_21 ?_
  refine ldl_7_5 (pc := 22) d_On_commonDivisor_22 ?_
  refine stl_n_7_2 (pc := 24) d_On_commonDivisor_24 rfl ?_
  refine inc_7_4 (pc := 25) (w := (-1)) d_On_commonDivisor_25 rfl rfl ?_
  rw [show (100 : Int32) + (-1) = 99 from by decide]
  refine r_goto (pc := 28) (tgt := 4) d_On_commonDivisor_28 (by decide) ?_
  refine ldi_7_4 (pc := 4) d_On_commonDivisor_4 ?_
  refine r_if_le (pc := 6) (tgt := 31) d_On_commonDivisor_6 (by decide) (fun c => absurd c (by decide)) (fun _ => ?_)
  refine ldl_n_7_2 (pc := 9) d_On_commonDivisor_9 ?_
  refine r_lconst (pc := 10) (v := 0) d_On_commonDivisor_10 rfl ?_
  refine r_lcmp (pc := 11) d_On_commonDivisor_11 ?_
  refine r_top (v := 0) (by decide) ?_
  refine r_if_eq (pc := 12) (tgt := 31) d_On_commonDivisor_12 (by decide) (fun _ => ?_) (fun c => absurd (by decide) c)
  refine ldl_n_7_0 (pc := 31) d_On_commonDivisor_31 ?_
  exact r_lret d_On_commonDivisor_32 rfl (by omega) (by omega) ⟨rfl, rfl, rfl, rfl⟩
theorem c_On_lt11 {p : Int32} : qMet E y_On_inLowestTerms b_On_inLowestTerms 7 (some .long) 1 0 0 [.long 1, .long 1, .int p] S I J (qPl S I J (if p = 0 then 1 else 1)) := by
  refine qMet.of (L := [some (.long 1), none, some (.long 1), none, some (.int p), none, none]) (by decide +kernel) (Nat.le_of_ble_eq_true rfl) rfl ?_
  refine ldl_n_7_0 (pc := 0) d_On_inLowestTerms_0 ?_
  refine ldl_n_7_2 (pc := 1) d_On_inLowestTerms_1 ?_
  refine r_callS (pc := 2) (As := [.long 1, .long 1]) k_On_293 sw_On_commonDivisor rfl (by decide) d_On_inLowestTerms_2 (c_On_cd11) rfl (Nat.le_of_ble_eq_true rfl) (by omega) (by omega) (by omega) (fun v' S' I' J' hq => ?_)
  obtain ⟨rfl, rfl, rfl, rfl⟩ := hq
  refine stl_7_5 (pc := 5) d_On_inLowestTerms_5 rfl ?_
  refine ldl_7_5 (pc := 7) d_On_inLowestTerms_7 ?_
  refine r_lconst (pc := 9) (v := 0) d_On_inLowestTerms_9 rfl ?_
  refine r_lcmp (pc := 10) d_On_inLowestTerms_10 ?_
  refine r_top (v := 1) (by decide) ?_
  refine r_if_ne (pc := 11) (tgt := 18) d_On_inLowestTerms_11 (by decide) (fun _ => ?_) (fun c => absurd c (by decide))
  refine ldi_7_4 (pc := 18) d_On_inLowestTerms_18 ?_
  refine r_if_ne (pc := 20) (tgt := 27) d_On_inLowestTerms_20 (by decide) (fun c1 => ?_) (fun c1 => ?_)
  · refine ldl_n_7_2 (pc := 27) d_On_inLowestTerms_27 ?_
    refine ldl_7_5 (pc := 28) d_On_inLowestTerms_28 ?_
    refine r_ldiv (pc := 30) d_On_inLowestTerms_30 (by decide) ?_
    refine r_topJ (v := 1) (by decide) ?_
    exact r_lret d_On_inLowestTerms_31 rfl (by omega) (by omega) ⟨(by rw [if_neg c1]), rfl, rfl, rfl⟩
  · refine ldl_n_7_0 (pc := 23) d_On_inLowestTerms_23 ?_
    refine r_goto (pc := 24) (tgt := 28) d_On_inLowestTerms_24 (by decide) ?_
    refine ldl_7_5 (pc := 28) d_On_inLowestTerms_28 ?_
    refine r_ldiv (pc := 30) d_On_inLowestTerms_30 (by decide) ?_
    refine r_topJ (v := 1) (by decide) ?_
    exact r_lret d_On_inLowestTerms_31 rfl (by omega) (by omega) ⟨(by rw [if_pos c1]), rfl, rfl, rfl⟩
theorem c_On_lt01 {p : Int32} : qMet E y_On_inLowestTerms b_On_inLowestTerms 7 (some .long) 1 0 0 [.long 0, .long 1, .int p] S I J (qPl S I J (if p = 0 then 0 else 1)) := by
  refine qMet.of (L := [some (.long 0), none, some (.long 1), none, some (.int p), none, none]) (by decide +kernel) (Nat.le_of_ble_eq_true rfl) rfl ?_
  refine ldl_n_7_0 (pc := 0) d_On_inLowestTerms_0 ?_
  refine ldl_n_7_2 (pc := 1) d_On_inLowestTerms_1 ?_
  refine r_callS (pc := 2) (As := [.long 0, .long 1]) k_On_293 sw_On_commonDivisor rfl (by decide) d_On_inLowestTerms_2 (c_On_cd01) rfl (Nat.le_of_ble_eq_true rfl) (by omega) (by omega) (by omega) (fun v' S' I' J' hq => ?_)
  obtain ⟨rfl, rfl, rfl, rfl⟩ := hq
  refine stl_7_5 (pc := 5) d_On_inLowestTerms_5 rfl ?_
  refine ldl_7_5 (pc := 7) d_On_inLowestTerms_7 ?_
  refine r_lconst (pc := 9) (v := 0) d_On_inLowestTerms_9 rfl ?_
  refine r_lcmp (pc := 10) d_On_inLowestTerms_10 ?_
  refine r_top (v := 1) (by decide) ?_
  refine r_if_ne (pc := 11) (tgt := 18) d_On_inLowestTerms_11 (by decide) (fun _ => ?_) (fun c => absurd c (by decide))
  refine ldi_7_4 (pc := 18) d_On_inLowestTerms_18 ?_
  refine r_if_ne (pc := 20) (tgt := 27) d_On_inLowestTerms_20 (by decide) (fun c1 => ?_) (fun c1 => ?_)
  · refine ldl_n_7_2 (pc := 27) d_On_inLowestTerms_27 ?_
    refine ldl_7_5 (pc := 28) d_On_inLowestTerms_28 ?_
    refine r_ldiv (pc := 30) d_On_inLowestTerms_30 (by decide) ?_
    refine r_topJ (v := 1) (by decide) ?_
    exact r_lret d_On_inLowestTerms_31 rfl (by omega) (by omega) ⟨(by rw [if_neg c1]), rfl, rfl, rfl⟩
  · refine ldl_n_7_0 (pc := 23) d_On_inLowestTerms_23 ?_
    refine r_goto (pc := 24) (tgt := 28) d_On_inLowestTerms_24 (by decide) ?_
    refine ldl_7_5 (pc := 28) d_On_inLowestTerms_28 ?_
    refine r_ldiv (pc := 30) d_On_inLowestTerms_30 (by decide) ?_
    refine r_topJ (v := 0) (by decide) ?_
    exact r_lret d_On_inLowestTerms_31 rfl (by omega) (by omega) ⟨(by rw [if_pos c1]), rfl, rfl, rfl⟩
def a_On_odds (q : Int32) (p : Int32) : Int64 := (if (qwithin q 0 9999) = 0 then (-9223372036854775808) else (if (qwithin p 0 1) = 0 then (-9223372036854775808) else (if p = 0 then 1 else 1)))
theorem k_On_odds {q p : Int32} (hC : qFc S I) : qMet E y_On_odds b_On_odds 3 (some .long) 6 0 0 [.ref (qb E + 0), .int q, .int p] S I J (fun r S' I' J' => r = some (.long (a_On_odds q p)) ∧ S = S' ∧ ∀ a, 114 ≤ a → I' a = I a) := by
  have hC0 := hC
  obtain ⟨hO, hZ, hZ2, hZ3, hZ4, hTs, hTz, hMz⟩ := hC
  have hO2 := hO
  obtain ⟨oT, oR0, oR1, oR2, oR3, oR5, oR6, oR8, oR9, oR10, hI1, hN, hA, hM3, hRe, hBl, hRo, hAc, tA, tR, tT⟩ := hO2
  have hN0 := hN
  obtain ⟨mT, mA1, mA2, mR0, mR2, mR5, mR6, mR7, mR8, nS, nP, nB, nI0, mRp, mMp⟩ := hN
  refine qMet.of (L := [some (.ref (qb E + 0)), some (.int q), some (.int p)]) (by decide +kernel) (Nat.le_of_ble_eq_true rfl) rfl ?_
  refine ldi_n_3_1 (pc := 0) d_On_odds_0 ?_
  refine r_iconst (pc := 1) (v := 0) d_On_odds_1 rfl ?_
  refine r_sipush (pc := 2) (v := 9999) d_On_odds_2 rfl ?_
  refine r_callS (pc := 5) (As := [.int q, .int 0, .int 9999]) k_On_64 sw_On_within rfl (by decide) d_On_odds_5 (c_On_within _ _ _) rfl (Nat.le_of_ble_eq_true rfl) (by omega) (by omega) (by omega) (fun v' S' I' J' hq => ?_)
  obtain ⟨rfl, rfl, rfl, rfl⟩ := hq
  refine r_if_eq (pc := 8) (tgt := 20) d_On_odds_8 (by decide) (fun c1 => ?_) (fun c1 => ?_)
  · refine r_ldc2 (pc := 20) cl_On_216 d_On_odds_20 ?_
    exact r_lret d_On_odds_23 rfl (by omega) (by omega) ⟨(by rw [a_On_odds, if_pos c1]), rfl, fun _ _ => rfl⟩
  · refine ldi_n_3_2 (pc := 11) d_On_odds_11 ?_
    refine r_iconst (pc := 12) (v := 0) d_On_odds_12 rfl ?_
    refine r_iconst (pc := 13) (v := 1) d_On_odds_13 rfl ?_
    refine r_callS (pc := 14) (As := [.int p, .int 0, .int 1]) k_On_64 sw_On_within rfl (by decide) d_On_odds_14 (c_On_within _ _ _) rfl (Nat.le_of_ble_eq_true rfl) (by omega) (by omega) (by omega) (fun v' S' I' J' hq => ?_)
    obtain ⟨rfl, rfl, rfl, rfl⟩ := hq
    refine r_if_ne (pc := 17) (tgt := 24) d_On_odds_17 (by decide) (fun c2 => ?_) (fun c2 => ?_)
    · refine lda_n_3_0 (pc := 24) d_On_odds_24 ?_
      refine g_On_46 (pc := 25) rfl d_On_odds_25 (oT) (by assumption) ?_
      refine lda_n_3_0 (pc := 28) d_On_odds_28 ?_
      refine g_On_23 (pc := 29) rfl d_On_odds_29 (oT) (by assumption) ?_
      refine ldi_n_3_1 (pc := 32) d_On_odds_32 ?_
      refine r_callVN (pc := 33) (As := [.ref (qb E + 6), .int q]) (k := 6) (N := 10) (T := T_Ro) k_On_184 im_Ro_walk se_Ro_walk rfl (by decide) rfl (by decide) d_On_odds_33 hRo.1 (c_Ro_walk (D := 0) (c := 0) hRo hN0 hC0.ok.1 hC0.ok.2 hp6 (by omega) (by rw [hZ 6 1 (by decide), q0]) (by omega)) rfl (Nat.le_of_ble_eq_true rfl) (by omega) (by omega) (by omega) (fun v' S' I4r J4r hq => ?_)
      obtain ⟨rfl, rfl, hI4r, ⟨z, hz, ez⟩, -, h0⟩ := hq
      obtain ⟨e5, e6, e7, e8, e9⟩ := h0 rfl (fun h => absurd (qwithin_y c1).1 (Int32.not_le.mpr h))
      refine lda_n_3_0 (pc := 36) d_On_odds_36 ?_
      refine g_On_46 (pc := 37) rfl d_On_odds_37 (oT) (by assumption) ?_
      refine g_On_218 (pc := 40) rfl d_On_odds_40 (hRo.1) ?_
      refine r_top (v := 1) (by exact e8) ?_
      refine r_i2l (pc := 43) d_On_odds_43 ?_
      refine r_topJ (v := 1) (by decide) ?_
      refine lda_n_3_0 (pc := 44) d_On_odds_44 ?_
      refine g_On_46 (pc := 45) rfl d_On_odds_45 (oT) (by assumption) ?_
      refine g_On_221 (pc := 48) rfl d_On_odds_48 (hRo.1) ?_
      refine r_top (v := 1) (by exact e7) ?_
      refine r_i2l (pc := 51) d_On_odds_51 ?_
      refine r_topJ (v := 1) (by decide) ?_
      refine ldi_n_3_2 (pc := 52) d_On_odds_52 ?_
      refine r_callS (pc := 53) (As := [.long 1, .long 1, .int p]) k_On_224 sw_On_inLowestTerms rfl (by decide) d_On_odds_53 (c_On_lt11) rfl (Nat.le_of_ble_eq_true rfl) (by omega) (by omega) (by omega) (fun v' S' I' J' hq => ?_)
      obtain ⟨rfl, rfl, rfl, rfl⟩ := hq
      exact r_lret d_On_odds_56 rfl (by omega) (by omega) ⟨(by rw [a_On_odds, if_neg c1, if_neg c2]), rfl, fun a ha => by rw [hI4r a (by unfold qPr; omega)]⟩
    · refine r_ldc2 (pc := 20) cl_On_216 d_On_odds_20 ?_
      exact r_lret d_On_odds_23 rfl (by omega) (by omega) ⟨(by rw [a_On_odds, if_neg c1, if_pos c2]), rfl, fun _ _ => rfl⟩
def a_On_mean (p : Int32) : Int64 := (if (qwithin p 0 1) = 0 then (-9223372036854775808) else (if p = 0 then 0 else 1))
theorem k_On_mean {p : Int32} (hC : qFc S I) : qMet E y_On_mean b_On_mean 2 (some .long) 6 0 0 [.ref (qb E + 0), .int p] S I J (fun r S' I' J' => r = some (.long (a_On_mean p)) ∧ S = S' ∧ ∀ a, 114 ≤ a → I' a = I a) := by
  have hC0 := hC
  obtain ⟨hO, hZ, hZ2, hZ3, hZ4, hTs, hTz, hMz⟩ := hC
  have hO2 := hO
  obtain ⟨oT, oR0, oR1, oR2, oR3, oR5, oR6, oR8, oR9, oR10, hI1, hN, hA, hM3, hRe, hBl, hRo, hAc, tA, tR, tT⟩ := hO2
  have hN0 := hN
  obtain ⟨mT, mA1, mA2, mR0, mR2, mR5, mR6, mR7, mR8, nS, nP, nB, nI0, mRp, mMp⟩ := hN
  refine qMet.of (L := [some (.ref (qb E + 0)), some (.int p)]) (by decide +kernel) (Nat.le_of_ble_eq_true rfl) rfl ?_
  refine ldi_n_2_1 (pc := 0) d_On_mean_0 ?_
  refine r_iconst (pc := 1) (v := 0) d_On_mean_1 rfl ?_
  refine r_iconst (pc := 2) (v := 1) d_On_mean_2 rfl ?_
  refine r_callS (pc := 3) (As := [.int p, .int 0, .int 1]) k_On_64 sw_On_within rfl (by decide) d_On_mean_3 (c_On_within _ _ _) rfl (Nat.le_of_ble_eq_true rfl) (by omega) (by omega) (by omega) (fun v' S' I' J' hq => ?_)
  obtain ⟨rfl, rfl, rfl, rfl⟩ := hq
  refine r_if_ne (pc := 6) (tgt := 13) d_On_mean_6 (by decide) (fun c1 => ?_) (fun c1 => ?_)
  · refine lda_n_2_0 (pc := 13) d_On_mean_13 ?_
    refine g_On_46 (pc := 14) rfl d_On_mean_14 (oT) (by assumption) ?_
    refine lda_n_2_0 (pc := 17) d_On_mean_17 ?_
    refine g_On_23 (pc := 18) rfl d_On_mean_18 (oT) (by assumption) ?_
    refine r_iconst (pc := 21) (v := 0) d_On_mean_21 rfl ?_
    refine r_callVN (pc := 22) (As := [.ref (qb E + 6), .int 0]) (k := 6) (N := 10) (T := T_Ro) k_On_184 im_Ro_walk se_Ro_walk rfl (by decide) rfl (by decide) d_On_mean_22 hRo.1 (c_Ro_walk (D := 0) (c := 0) hRo hN0 hC0.ok.1 hC0.ok.2 hp6 (by omega) (by rw [hZ 6 1 (by decide), q0]) (by omega)) rfl (Nat.le_of_ble_eq_true rfl) (by omega) (by omega) (by omega) (fun v' S' I5r J5r hq => ?_)
    obtain ⟨rfl, rfl, hI5r, ⟨z, hz, ez⟩, -, h0⟩ := hq
    obtain ⟨e5, e6, e7, e8, e9⟩ := h0 rfl (by decide)
    refine lda_n_2_0 (pc := 25) d_On_mean_25 ?_
    refine g_On_46 (pc := 26) rfl d_On_mean_26 (oT) (by assumption) ?_
    refine g_On_228 (pc := 29) rfl d_On_mean_29 (hRo.1) ?_
    refine r_topJ (v := 0) (by exact e9) ?_
    refine lda_n_2_0 (pc := 32) d_On_mean_32 ?_
    refine g_On_46 (pc := 33) rfl d_On_mean_33 (oT) (by assumption) ?_
    refine g_On_221 (pc := 36) rfl d_On_mean_36 (hRo.1) ?_
    refine r_top (v := 1) (by exact e7) ?_
    refine r_i2l (pc := 39) d_On_mean_39 ?_
    refine r_topJ (v := 1) (by decide) ?_
    refine ldi_n_2_1 (pc := 40) d_On_mean_40 ?_
    refine r_callS (pc := 41) (As := [.long 0, .long 1, .int p]) k_On_224 sw_On_inLowestTerms rfl (by decide) d_On_mean_41 (c_On_lt01) rfl (Nat.le_of_ble_eq_true rfl) (by omega) (by omega) (by omega) (fun v' S' I' J' hq => ?_)
    obtain ⟨rfl, rfl, rfl, rfl⟩ := hq
    exact r_lret d_On_mean_44 rfl (by omega) (by omega) ⟨(by rw [a_On_mean, if_neg c1]), rfl, fun a ha => by rw [hI5r a (by unfold qPr; omega)]⟩
  · refine r_ldc2 (pc := 9) cl_On_216 d_On_mean_9 ?_
    exact r_lret d_On_mean_12 rfl (by omega) (by omega) ⟨(by rw [a_On_mean, if_pos c1]), rfl, fun _ _ => rfl⟩
end ON8
