/-! the object's calls: can, rows, told -/
/-- an answer; the rows' cells and the island's values aside, no cell changed -/
abbrev cRQ (S : qSh) (I : qI) (J : qJ) (w0 : Nat) : qPost := fun v S' I' J' => (∃ r, v = some (.int r)) ∧ S = S' ∧ qFr (qPr w0) I I' ∧ ∀ a, a ≠ 94 → J' a = J a
abbrev cRL (S : qSh) (I : qI) (J : qJ) (w0 : Nat) : qPost := fun v S' I' J' => (∃ r, v = some (.long r)) ∧ S = S' ∧ qFr (qPr w0) I I' ∧ ∀ a, a ≠ 94 → J' a = J a
theorem qW1.pos {w : Nat} (h : qW1 w) : qPos 6 w := by unfold qW1 at h; unfold qPos qApart; omega
section H5
variable {E : qE} {S : qSh} {I : qI} {J : qJ} {w0 w1 w2 bl : Nat}
theorem c_On_can {x w z : Int32} {c : Nat} (hO : isOn S w0 w1 w2 bl) (hw : qW1 w0) (hok : qMgOK I 6 9999) (hI : qIsOK I w0) (h33 : cAh0 I) (hc : I 6 1 = nI c) (hc6 : c ≤ 6) : qMet E y_On_can b_On_can 9 (some .int) 5 0 0 [.ref (qb E + 0), .int x, .int w, .int z] S I J (cAQ S I J w0) := by
  have hO0 := hO
  obtain ⟨oT, oR0, oR1, oR2, oR3, oR5, oR6, oR8, oR9, oR10, hI1, hN, hA, hM3, hRe, hBl, hRo, hAc, tA, tR, tT⟩ := hO
  have aT := hA.1
  have nT := hN.1
  obtain ⟨ok2, is2, fr2⟩ := aBec hw hok hI h33
  have hO2 := hO0.set33 hN.is
  have hap : qApart 33 w0 := by unfold qApart; unfold qW1 at hw; omega
  refine qMet.of (L := [some (.ref (qb E + 0)), some (.int x), some (.int w), some (.int z), none, none, none, none, none]) (by decide +kernel) (Nat.le_of_ble_eq_true rfl) rfl ?_
  refine lda_n_9_0 (pc := 0) d_On_can_0 ?_
  refine ldi_n_9_1 (pc := 1) d_On_can_1 ?_
  refine r_callV (pc := 2) (As := [.int x]) (k := 8) (N := 11) (T := T_On) k_On_82 im_On_isMourner se_On_isMourner rfl (by decide) rfl (by decide) d_On_can_2 (by assumption) (c_On_isMourner hO0) rfl (Nat.le_of_ble_eq_true rfl) (by omega) (by omega) (by omega) (fun v S' I' J' hq => ?_)
  obtain ⟨rfl, rfl, rfl, rfl⟩ := hq
  rw [hc]
  refine r_if_eq (pc := 5) (tgt := 26) d_On_can_5 (by decide) (fun c1 => ?_) (fun c1 => ?_)
  · refine r_iconst (pc := 26) (v := (-1)) d_On_can_26 rfl ?_
    exact r_iret d_On_can_27 rfl (by omega) (by omega) (⟨⟨_, rfl⟩, Or.inl rfl, qFr.rf, h33, rfl⟩)
  · refine ldi_n_9_2 (pc := 8) d_On_can_8 ?_
    refine r_iconst (pc := 9) (v := 0) d_On_can_9 rfl ?_
    refine r_iconst (pc := 10) (v := 2) d_On_can_10 rfl ?_
    refine r_callS (pc := 11) (As := [.int w, .int 0, .int 2]) k_On_64 sw_On_within rfl (by decide) d_On_can_11 (c_On_within _ _ _) rfl (Nat.le_of_ble_eq_true rfl) (by omega) (by omega) (by omega) (fun v S' I' J' hq => ?_)
    obtain ⟨rfl, rfl, rfl, rfl⟩ := hq
    refine r_if_eq (pc := 14) (tgt := 26) d_On_can_14 (by decide) (fun c2 => ?_) (fun c2 => ?_)
    · refine r_iconst (pc := 26) (v := (-1)) d_On_can_26 rfl ?_
      exact r_iret d_On_can_27 rfl (by omega) (by omega) (⟨⟨_, rfl⟩, Or.inl rfl, qFr.rf, h33, rfl⟩)
    · refine ldi_n_9_3 (pc := 17) d_On_can_17 ?_
      refine r_iconst (pc := 18) (v := 0) d_On_can_18 rfl ?_
      refine r_iconst (pc := 19) (v := 1) d_On_can_19 rfl ?_
      refine r_callS (pc := 20) (As := [.int z, .int 0, .int 1]) k_On_64 sw_On_within rfl (by decide) d_On_can_20 (c_On_within _ _ _) rfl (Nat.le_of_ble_eq_true rfl) (by omega) (by omega) (by omega) (fun v S' I' J' hq => ?_)
      obtain ⟨rfl, rfl, rfl, rfl⟩ := hq
      refine r_if_ne (pc := 23) (tgt := 28) d_On_can_23 (by decide) (fun c3 => ?_) (fun c3 => ?_)
      · obtain ⟨p, hp, rfl⟩ := qisM_y (by omega) c1
        refine lda_n_9_0 (pc := 28) d_On_can_28 ?_
        refine g_On_27 (pc := 29) rfl d_On_can_29 (by assumption) (by assumption) ?_
        refine lda_n_9_0 (pc := 32) d_On_can_32 ?_
        refine g_On_23 (pc := 33) rfl d_On_can_33 (by assumption) (by assumption) ?_
        refine r_callVN (pc := 36) (As := [.ref (qb E + 6)]) (k := 3) (N := 9) (T := T_Mg) k_On_179 im_Mg_becomes se_Mg_becomes rfl (by decide) rfl (by decide) d_On_can_36 aT (c_Mg_becomes hA hN hok (by unfold qApM; omega)) rfl (Nat.le_of_ble_eq_true rfl) (by omega) (by omega) (by omega) (fun v S2 I2 J' hq => ?_)
        obtain ⟨rfl, hS2, rfl, rfl⟩ := hq
        have hO3 : isOn S2 w0 w0 w2 bl := by rw [hS2]; exact hO2
        obtain ⟨oT', oR0', oR1', oR2', oR3', oR5', oR6', oR8', oR9', oR10', hI1', hN', hA', -⟩ := hO3
        have hA0 := hA'
        obtain ⟨mT, mA1, mA2, mR0, mR2, mR5, mR6, mR7, mR8, nS, nP, nB, nI0, mRp, mMp⟩ := hA'
        have hin : vp_in (nI p) 6 := vp_in_nI (by omega) (by omega)
        have hRc : qR S2 (33 + 1) (nI p).toNatClampNeg = some (qm 33 p) := by rw [qcl (by omega)]; exact mRp p (by omega)
        have hMo : isMo S2 (qm 33 p) := mMp p (by omega)
        have hMT : qT S2 (qm 33 p) 2 := hMo.1
        have lo := qm_lo (o := 33) (p := p)
        have hi := qm_hi (o := 33) (p := p) (by omega)
        have keep : ∀ (K : qI) (j : Nat) (v : Int32), j ≠ 6 → qMgOK K 33 9999 → qIsOK K w0 → qFr (aP w0) I K → qMgOK (qup K (qm 33 p) j v) 33 9999 ∧ qIsOK (qup K (qm 33 p) j v) w0 ∧ qFr (aP w0) I (qup K (qm 33 p) j v) := by
          intro K j v hj ok is fr
          unfold qW1 at hw
          refine ⟨ok.rows (fun a h1 h2 => qup_row (by omega)) (fun p2 hp2 => ?_), is.of (qup_row (by omega)) (qup_row (by omega)), fr.up (by unfold aP; omega)⟩
          have := ok.2.2.2.2.2.2.1 p2 hp2
          by_cases e : qm 33 p2 = qm 33 p
          · rw [e, qup_j (Ne.symm hj), ← e]; exact this
          · rw [qup_o e]; exact this
        have key : ∀ (k : Nat), k ≤ 100 → ∀ (K : qI) (m5 m6 m7 : Int32), qMgOK K 33 9999 → qIsOK K w0 → qFr (aP w0) I K → qW E y_On_can b_On_can (some .int) 5 0 0 (cAQ S I J w0) 0 0 84 [some (.ref (qb E + 0)), some (.int (nI p)), some (.int w), some (.int z), some (.ref (qb E + qm 33 p)), some (.int m5), some (.int m6), some (.int m7), some (.int (nI k - 1))] [] S2 K J := by
          intro k
          induction k with
          | zero =>
            intro _ K m5 m6 m7 ok is fr
            refine ldi_9_8 (pc := 84) d_On_can_84 ?_
            refine r_if_lt (pc := 86) (tgt := 150) d_On_can_86 (by decide) (fun c4 => ?_) (fun c4 => ?_)
            · refine ldi_n_9_3 (pc := 150) d_On_can_150 ?_
              refine r_if_ne (pc := 151) (tgt := 159) d_On_can_151 (by decide) (fun c5 => ?_) (fun c5 => ?_)
              · refine ldi_9_7 (pc := 159) d_On_can_159 ?_
                exact r_iret d_On_can_161 rfl (by omega) (by omega) (⟨⟨_, rfl⟩, Or.inr hS2, fr, ok.ah, rfl⟩)
              · refine ldi_9_6 (pc := 154) d_On_can_154 ?_
                refine r_goto (pc := 156) (tgt := 161) d_On_can_156 (by decide) ?_
                exact r_iret d_On_can_161 rfl (by omega) (by omega) (⟨⟨_, rfl⟩, Or.inr hS2, fr, ok.ah, rfl⟩)
            · exact absurd (by decide) c4
          | succ k ih =>
            intro hk K m5 m6 m7 ok is fr
            rw [nI_pred]
            have aft : ∀ (M : qI), qMgOK M 33 9999 → qIsOK M w0 → qFr (aP w0) I M → qW E y_On_can b_On_can (some .int) 5 0 0 (cAQ S I J w0) 0 0 125 [some (.ref (qb E + 0)), some (.int (nI p)), some (.int w), some (.int z), some (.ref (qb E + qm 33 p)), some (.int m5), some (.int m6), some (.int m7), some (.int (nI k))] [] S2 M J := by
              intro M ok is fr
              refine lda_n_9_0 (pc := 125) d_On_can_125 ?_
              refine g_On_27 (pc := 126) rfl d_On_can_126 (by assumption) (by assumption) ?_
              refine lda_9_4 (pc := 129) d_On_can_129 ?_
              refine r_callVN (pc := 131) (As := [.ref (qb E + qm 33 p)]) (k := 3) (N := 9) (T := T_Mg) k_On_212 im_Mg_isAsSeen se_Mg_isAsSeen rfl (by decide) rfl (by decide) d_On_can_131 mT (c_Mg_isAsSeen hA0 hMo (by unfold qW1 at hw; omega) ok is hap (by omega)) rfl (Nat.le_of_ble_eq_true rfl) (by omega) (by omega) (by omega) (fun v S' I3 J' hq => ?_)
              obtain ⟨rfl, rfl, hI3, rfl⟩ := hq
              have ok3 : qMgOK I3 33 9999 := ok.eq hap hI3
              have is3 : qIsOK I3 w0 := is.of (hI3 _ (by omega)) (hI3 _ (by omega))
              have fr3 : qFr (aP w0) I I3 := fun a ha => by rw [hI3 a (by unfold aP at ha; omega)]; exact fr a ha
              refine r_if_eq (pc := 134) (tgt := 144) d_On_can_134 (by decide) (fun c6 => ?_) (fun c6 => ?_)
              · refine inc_9_8 (pc := 144) (w := (-1)) d_On_can_144 rfl rfl ?_
                refine r_goto (pc := 147) (tgt := 84) d_On_can_147 (by decide) ?_
                rw [nI_m1]
                exact ih (by omega) _ _ _ _ ok3 is3 fr3
              · refine inc_9_6 (pc := 137) (w := 1) d_On_can_137 rfl rfl ?_
                refine ldi_9_8 (pc := 140) d_On_can_140 ?_
                refine sti_9_7 (pc := 142) d_On_can_142 rfl ?_
                refine inc_9_8 (pc := 144) (w := (-1)) d_On_can_144 rfl rfl ?_
                refine r_goto (pc := 147) (tgt := 84) d_On_can_147 (by decide) ?_
                rw [nI_m1]
                exact ih (by omega) _ _ _ _ ok3 is3 fr3
            refine ldi_9_8 (pc := 84) d_On_can_84 ?_
            refine r_if_lt (pc := 86) (tgt := 150) d_On_can_86 (by decide) (fun c4 => ?_) (fun c4 => ?_)
            · exact absurd c4 (nI_pos (by omega))
            · refine ldi_n_9_2 (pc := 89) d_On_can_89 ?_
              refine r_if_ne (pc := 90) (tgt := 103) d_On_can_90 (by decide) (fun c5 => ?_) (fun c5 => ?_)
              · refine ldi_n_9_2 (pc := 103) d_On_can_103 ?_
                refine r_iconst (pc := 104) (v := 1) d_On_can_104 rfl ?_
                refine r_icmp_ne (pc := 105) (tgt := 118) d_On_can_105 (by decide) (fun c6 => ?_) (fun c6 => ?_)
                · refine lda_9_4 (pc := 118) d_On_can_118 ?_
                  refine ldi_9_8 (pc := 120) d_On_can_120 ?_
                  refine p_On_89 (pc := 122) rfl d_On_can_122 (by assumption) ?_
                  obtain ⟨q1, q2, q3⟩ := keep K 2 (nI k) (by decide) ok is fr
                  exact aft _ q1 q2 q3
                · refine lda_9_4 (pc := 108) d_On_can_108 ?_
                  refine ldi_9_8 (pc := 110) d_On_can_110 ?_
                  refine p_On_95 (pc := 112) rfl d_On_can_112 (by assumption) ?_
                  refine r_goto (pc := 115) (tgt := 125) d_On_can_115 (by decide) ?_
                  obtain ⟨q1, q2, q3⟩ := keep K 4 (nI k) (by decide) ok is fr
                  exact aft _ q1 q2 q3
              · refine lda_9_4 (pc := 93) d_On_can_93 ?_
                refine ldi_9_8 (pc := 95) d_On_can_95 ?_
                refine p_On_92 (pc := 97) rfl d_On_can_97 (by assumption) ?_
                refine r_goto (pc := 100) (tgt := 125) d_On_can_100 (by decide) ?_
                obtain ⟨q1, q2, q3⟩ := keep K 3 (nI k) (by decide) ok is fr
                exact aft _ q1 q2 q3
        refine lda_n_9_0 (pc := 39) d_On_can_39 ?_
        refine g_On_27 (pc := 40) rfl d_On_can_40 (by assumption) (by assumption) ?_
        refine g_On_72 (pc := 43) rfl d_On_can_43 (by assumption) (by assumption) ?_
        refine ldi_n_9_1 (pc := 46) d_On_can_46 ?_
        refine r_aald14 (pc := 47) d_On_can_47 (by assumption) (by first | assumption | exact vp_in_nI (by omega) (by omega) | (unfold vp_in; decide)) (by assumption) ?_
        refine sta_9_4 (pc := 48) d_On_can_48 rfl ?_
        refine ldi_n_9_2 (pc := 50) d_On_can_50 ?_
        refine r_if_ne (pc := 51) (tgt := 59) d_On_can_51 (by decide) (fun c4 => ?_) (fun c4 => ?_)
        · refine ldi_n_9_2 (pc := 59) d_On_can_59 ?_
          refine r_iconst (pc := 60) (v := 1) d_On_can_60 rfl ?_
          refine r_icmp_ne (pc := 61) (tgt := 69) d_On_can_61 (by decide) (fun c5 => ?_) (fun c5 => ?_)
          · refine r_bipush (pc := 69) (v := 9) d_On_can_69 rfl ?_
            refine sti_9_5 (pc := 71) d_On_can_71 rfl ?_
            refine r_iconst (pc := 73) (v := 0) d_On_can_73 rfl ?_
            refine sti_9_6 (pc := 74) d_On_can_74 rfl ?_
            refine r_bipush (pc := 76) (v := (-5)) d_On_can_76 rfl ?_
            refine sti_9_7 (pc := 78) d_On_can_78 rfl ?_
            refine ldi_9_5 (pc := 80) d_On_can_80 ?_
            refine sti_9_8 (pc := 82) d_On_can_82 rfl ?_
            exact key 10 (by omega) _ _ _ _ ok2 is2 fr2
          · refine r_bipush (pc := 64) (v := 60) d_On_can_64 rfl ?_
            refine r_goto (pc := 66) (tgt := 71) d_On_can_66 (by decide) ?_
            refine sti_9_5 (pc := 71) d_On_can_71 rfl ?_
            refine r_iconst (pc := 73) (v := 0) d_On_can_73 rfl ?_
            refine sti_9_6 (pc := 74) d_On_can_74 rfl ?_
            refine r_bipush (pc := 76) (v := (-5)) d_On_can_76 rfl ?_
            refine sti_9_7 (pc := 78) d_On_can_78 rfl ?_
            refine ldi_9_5 (pc := 80) d_On_can_80 ?_
            refine sti_9_8 (pc := 82) d_On_can_82 rfl ?_
            exact key 61 (by omega) _ _ _ _ ok2 is2 fr2
        · refine r_bipush (pc := 54) (v := 99) d_On_can_54 rfl ?_
          refine r_goto (pc := 56) (tgt := 71) d_On_can_56 (by decide) ?_
          refine sti_9_5 (pc := 71) d_On_can_71 rfl ?_
          refine r_iconst (pc := 73) (v := 0) d_On_can_73 rfl ?_
          refine sti_9_6 (pc := 74) d_On_can_74 rfl ?_
          refine r_bipush (pc := 76) (v := (-5)) d_On_can_76 rfl ?_
          refine sti_9_7 (pc := 78) d_On_can_78 rfl ?_
          refine ldi_9_5 (pc := 80) d_On_can_80 ?_
          refine sti_9_8 (pc := 82) d_On_can_82 rfl ?_
          exact key 100 (by omega) _ _ _ _ ok2 is2 fr2
      · refine r_iconst (pc := 26) (v := (-1)) d_On_can_26 rfl ?_
        exact r_iret d_On_can_27 rfl (by omega) (by omega) (⟨⟨_, rfl⟩, Or.inl rfl, qFr.rf, h33, rfl⟩)
theorem c_On_best {x k : Int32} {c : Nat} (hO : isOn S w0 w1 w2 bl) (hw : qW1 w0) (hok : qMgOK I 6 9999) (hI : qIsOK I w0) (hc : I 6 1 = nI c) (hc6 : c ≤ 6) : qMet E y_On_best b_On_best 3 (some .int) 6 0 0 [.ref (qb E + 0), .int x, .int k] S I J (cRQ S I J w0) := by
  obtain ⟨oT, oR0, oR1, oR2, oR3, oR5, oR6, oR8, oR9, oR10, hI1, hN, hA, hM3, hRe, hBl, hRo, hAc, tA, tR, tT⟩ := hO
  have hRo0 := hRo
  obtain ⟨rT, rA1, rA2, rA3, rA4, rR0, rR1, rR3, rR4⟩ := hRo
  refine qMet.of (L := [some (.ref (qb E + 0)), some (.int x), some (.int k)]) (by decide +kernel) (Nat.le_of_ble_eq_true rfl) rfl ?_
  refine ldi_n_3_1 (pc := 0) d_On_best_0 ?_
  refine r_iconst (pc := 1) (v := 0) d_On_best_1 rfl ?_
  refine r_iconst (pc := 2) (v := 1) d_On_best_2 rfl ?_
  refine r_callS (pc := 3) (As := [.int x, .int 0, .int 1]) k_On_64 sw_On_within rfl (by decide) d_On_best_3 (c_On_within _ _ _) rfl (Nat.le_of_ble_eq_true rfl) (by omega) (by omega) (by omega) (fun v S' I' J' hq => ?_)
  obtain ⟨rfl, rfl, rfl, rfl⟩ := hq
  refine r_if_eq (pc := 6) (tgt := 18) d_On_best_6 (by decide) (fun c1 => ?_) (fun c1 => ?_)
  · refine r_iconst (pc := 18) (v := (-1)) d_On_best_18 rfl ?_
    exact r_iret d_On_best_19 rfl (by omega) (by omega) (⟨⟨_, rfl⟩, rfl, qFr.rf, fun _ _ => rfl⟩)
  · refine ldi_n_3_2 (pc := 9) d_On_best_9 ?_
    refine r_iconst (pc := 10) (v := (-1)) d_On_best_10 rfl ?_
    refine r_iconst (pc := 11) (v := 5) d_On_best_11 rfl ?_
    refine r_callS (pc := 12) (As := [.int k, .int (-1), .int 5]) k_On_64 sw_On_within rfl (by decide) d_On_best_12 (c_On_within _ _ _) rfl (Nat.le_of_ble_eq_true rfl) (by omega) (by omega) (by omega) (fun v S' I' J' hq => ?_)
    obtain ⟨rfl, rfl, rfl, rfl⟩ := hq
    refine r_if_ne (pc := 15) (tgt := 20) d_On_best_15 (by decide) (fun c2 => ?_) (fun c2 => ?_)
    · refine lda_n_3_0 (pc := 20) d_On_best_20 ?_
      refine g_On_46 (pc := 21) rfl d_On_best_21 (by assumption) (by assumption) ?_
      refine lda_n_3_0 (pc := 24) d_On_best_24 ?_
      refine g_On_23 (pc := 25) rfl d_On_best_25 (by assumption) (by assumption) ?_
      refine r_iconst (pc := 28) (v := 0) d_On_best_28 rfl ?_
      refine r_callVN (pc := 29) (As := [.ref (qb E + 6), .int 0]) (k := 6) (N := 10) (T := T_Ro) k_On_184 im_Ro_walk se_Ro_walk rfl (by decide) rfl (by decide) d_On_best_29 rT (c_Ro_walk hRo0 hN hok hI hw.pos (by omega) hc hc6) rfl (Nat.le_of_ble_eq_true rfl) (by omega) (by omega) (by omega) (fun v S' I' J' hq => ?_)
      obtain ⟨rfl, rfl, fr, -, fj, -⟩ := hq
      refine ldi_n_3_2 (pc := 32) d_On_best_32 ?_
      refine r_if_ge (pc := 33) (tgt := 58) d_On_best_33 (by decide) (fun c3 => ?_) (fun c3 => ?_)
      · have hin : vp_in k 6 := by
          obtain ⟨g1, g2⟩ := qwithin_y c2
          obtain ⟨m, m1, m2⟩ := nI_of2 (M := 5) (n := 5) rfl (Int32.not_lt.mpr c3) g2
          rw [m2]; exact vp_in_nI (by omega) (by omega)
        refine ldi_n_3_2 (pc := 58) d_On_best_58 ?_
        refine lda_n_3_0 (pc := 59) d_On_best_59 ?_
        refine g_On_46 (pc := 60) rfl d_On_best_60 (by assumption) (by assumption) ?_
        refine g_On_194 (pc := 63) rfl d_On_best_63 (by assumption) ?_
        refine r_icmp_lt (pc := 66) (tgt := 72) d_On_best_66 (by decide) (fun c4 => ?_) (fun c4 => ?_)
        · refine ldi_n_3_1 (pc := 72) d_On_best_72 ?_
          refine r_if_ne (pc := 73) (tgt := 88) d_On_best_73 (by decide) (fun c5 => ?_) (fun c5 => ?_)
          · refine lda_n_3_0 (pc := 88) d_On_best_88 ?_
            refine g_On_46 (pc := 89) rfl d_On_best_89 (by assumption) (by assumption) ?_
            refine g_On_198 (pc := 92) rfl d_On_best_92 (by assumption) (by assumption) ?_
            refine ldi_n_3_2 (pc := 95) d_On_best_95 ?_
            refine r_iald (pc := 96) d_On_best_96 (by assumption) (by first | assumption | exact vp_in_nI (by omega) (by omega) | (unfold vp_in; decide)) ?_
            exact r_iret d_On_best_97 rfl (by omega) (by omega) (⟨⟨_, rfl⟩, rfl, fr, fj⟩)
          · refine lda_n_3_0 (pc := 76) d_On_best_76 ?_
            refine g_On_46 (pc := 77) rfl d_On_best_77 (by assumption) (by assumption) ?_
            refine g_On_195 (pc := 80) rfl d_On_best_80 (by assumption) (by assumption) ?_
            refine ldi_n_3_2 (pc := 83) d_On_best_83 ?_
            refine r_iald (pc := 84) d_On_best_84 (by assumption) (by first | assumption | exact vp_in_nI (by omega) (by omega) | (unfold vp_in; decide)) ?_
            refine r_goto (pc := 85) (tgt := 97) d_On_best_85 (by decide) ?_
            exact r_iret d_On_best_97 rfl (by omega) (by omega) (⟨⟨_, rfl⟩, rfl, fr, fj⟩)
        · refine r_bipush (pc := 69) (v := (-5)) d_On_best_69 rfl ?_
          exact r_iret d_On_best_71 rfl (by omega) (by omega) (⟨⟨_, rfl⟩, rfl, fr, fj⟩)
      · refine ldi_n_3_1 (pc := 36) d_On_best_36 ?_
        refine r_if_ne (pc := 37) (tgt := 50) d_On_best_37 (by decide) (fun c4 => ?_) (fun c4 => ?_)
        · refine lda_n_3_0 (pc := 50) d_On_best_50 ?_
          refine g_On_46 (pc := 51) rfl d_On_best_51 (by assumption) (by assumption) ?_
          refine g_On_191 (pc := 54) rfl d_On_best_54 (by assumption) ?_
          exact r_iret d_On_best_57 rfl (by omega) (by omega) (⟨⟨_, rfl⟩, rfl, fr, fj⟩)
        · refine lda_n_3_0 (pc := 40) d_On_best_40 ?_
          refine g_On_46 (pc := 41) rfl d_On_best_41 (by assumption) (by assumption) ?_
          refine g_On_188 (pc := 44) rfl d_On_best_44 (by assumption) ?_
          refine r_goto (pc := 47) (tgt := 57) d_On_best_47 (by decide) ?_
          exact r_iret d_On_best_57 rfl (by omega) (by omega) (⟨⟨_, rfl⟩, rfl, fr, fj⟩)
    · refine r_iconst (pc := 18) (v := (-1)) d_On_best_18 rfl ?_
      exact r_iret d_On_best_19 rfl (by omega) (by omega) (⟨⟨_, rfl⟩, rfl, qFr.rf, fun _ _ => rfl⟩)
theorem c_On_told {x : Int32} {c l : Nat} (hO : isOn S w0 w1 w2 bl) (hw : qW1 w0) (hok : qMgOK I 6 9999) (hI : qIsOK I w0) (hc : I 6 1 = nI c) (hc6 : c ≤ 6) (hl : I 6 3 = nI l) (hl6 : l ≤ 6) : qMet E y_On_told b_On_told 2 (some .int) 6 0 0 [.ref (qb E + 0), .int x] S I J (cRQ S I J w0) := by
  obtain ⟨oT, oR0, oR1, oR2, oR3, oR5, oR6, oR8, oR9, oR10, hI1, hN, hA, hM3, hRe, hBl, hRo, hAc, tA, tR, tT⟩ := hO
  have hRo0 := hRo
  obtain ⟨rT, -⟩ := hRo
  have nT := hN.1
  have n5 := hN.2.2.2.2.2.1
  have iT := hN.is.1
  refine qMet.of (L := [some (.ref (qb E + 0)), some (.int x)]) (by decide +kernel) (Nat.le_of_ble_eq_true rfl) rfl ?_
  refine ldi_n_2_1 (pc := 0) d_On_told_0 ?_
  by_cases k0 : x = 0
  · rw [k0]
    refine r_tableIn (pc := 1) (off := 51) (tgt := 52) d_On_told_1 (by decide) (by decide) (by decide +kernel) (by decide) ?_
    refine lda_n_2_0 (pc := 52) d_On_told_52 ?_
    refine g_On_23 (pc := 53) rfl d_On_told_53 (by assumption) (by assumption) ?_
    refine g_On_148 (pc := 56) rfl d_On_told_56 (by assumption) ?_
    exact r_iret d_On_told_59 rfl (by omega) (by omega) (⟨⟨_, rfl⟩, rfl, qFr.rf, fun _ _ => rfl⟩)
  by_cases k1 : x = 1
  · rw [k1]
    refine r_tableIn (pc := 1) (off := 59) (tgt := 60) d_On_told_1 (by decide) (by decide) (by decide +kernel) (by decide) ?_
    refine lda_n_2_0 (pc := 60) d_On_told_60 ?_
    refine g_On_23 (pc := 61) rfl d_On_told_61 (by assumption) (by assumption) ?_
    refine g_On_145 (pc := 64) rfl d_On_told_64 (by assumption) (by assumption) ?_
    refine g_On_151 (pc := 67) rfl d_On_told_67 (by assumption) ?_
    exact r_iret d_On_told_70 rfl (by omega) (by omega) (⟨⟨_, rfl⟩, rfl, qFr.rf, fun _ _ => rfl⟩)
  by_cases k2 : x = 2
  · rw [k2]
    refine r_tableIn (pc := 1) (off := 70) (tgt := 71) d_On_told_1 (by decide) (by decide) (by decide +kernel) (by decide) ?_
    refine lda_n_2_0 (pc := 71) d_On_told_71 ?_
    refine g_On_23 (pc := 72) rfl d_On_told_72 (by assumption) (by assumption) ?_
    refine lda_n_2_0 (pc := 75) d_On_told_75 ?_
    refine g_On_23 (pc := 76) rfl d_On_told_76 (by assumption) (by assumption) ?_
    refine g_On_148 (pc := 79) rfl d_On_told_79 (by assumption) ?_
    refine r_callVN (pc := 82) (As := [.int (I 6 4)]) (k := 3) (N := 9) (T := T_Mg) k_On_154 im_Mg_isLost se_Mg_isLost rfl (by decide) rfl (by decide) d_On_told_82 nT (c_Mg_isLost hN) rfl (Nat.le_of_ble_eq_true rfl) (by omega) (by omega) (by omega) (fun v S' I' J' hq => ?_)
    obtain ⟨rfl, rfl, rfl, rfl⟩ := hq
    refine r_callS (pc := 85) (As := [.int (qlost (I w0 5) (I 6 4))]) k_On_105 sw_On_bit rfl (by decide) d_On_told_85 (c_On_bit _) rfl (Nat.le_of_ble_eq_true rfl) (by omega) (by omega) (by omega) (fun v S' I' J' hq => ?_)
    obtain ⟨rfl, rfl, rfl, rfl⟩ := hq
    exact r_iret d_On_told_88 rfl (by omega) (by omega) (⟨⟨_, rfl⟩, rfl, qFr.rf, fun _ _ => rfl⟩)
  by_cases k3 : x = 3
  · rw [k3]
    refine r_tableIn (pc := 1) (off := 88) (tgt := 89) d_On_told_1 (by decide) (by decide) (by decide +kernel) (by decide) ?_
    refine lda_n_2_0 (pc := 89) d_On_told_89 ?_
    refine g_On_23 (pc := 90) rfl d_On_told_90 (by assumption) (by assumption) ?_
    refine r_callVN (pc := 93) (As := []) (k := 3) (N := 9) (T := T_Mg) k_On_157 im_Mg_hurtOfAll se_Mg_hurtOfAll rfl (by decide) rfl (by decide) d_On_told_93 nT (c_Mg_hurtOfAll hN hok) rfl (Nat.le_of_ble_eq_true rfl) (by omega) (by omega) (by omega) (fun v S' I' J' hq => ?_)
    obtain ⟨rfl, rfl, rfl, rfl⟩ := hq
    exact r_iret d_On_told_96 rfl (by omega) (by omega) (⟨⟨_, rfl⟩, rfl, qFr.rf, fun _ _ => rfl⟩)
  by_cases k4 : x = 4
  · rw [k4]
    refine r_tableIn (pc := 1) (off := 96) (tgt := 97) d_On_told_1 (by decide) (by decide) (by decide +kernel) (by decide) ?_
    refine lda_n_2_0 (pc := 97) d_On_told_97 ?_
    refine g_On_23 (pc := 98) rfl d_On_told_98 (by assumption) (by assumption) ?_
    refine r_callVN (pc := 101) (As := []) (k := 3) (N := 9) (T := T_Mg) k_On_161 im_Mg_howManyDone se_Mg_howManyDone rfl (by decide) rfl (by decide) d_On_told_101 nT (c_Mg_howManyDone hN hok) rfl (Nat.le_of_ble_eq_true rfl) (by omega) (by omega) (by omega) (fun v S' I' J' hq => ?_)
    obtain ⟨rfl, rfl, rfl, rfl⟩ := hq
    exact r_iret d_On_told_104 rfl (by omega) (by omega) (⟨⟨_, rfl⟩, rfl, qFr.rf, fun _ _ => rfl⟩)
  by_cases k5 : x = 5
  · rw [k5]
    refine r_tableIn (pc := 1) (off := 104) (tgt := 105) d_On_told_1 (by decide) (by decide) (by decide +kernel) (by decide) ?_
    refine lda_n_2_0 (pc := 105) d_On_told_105 ?_
    refine g_On_23 (pc := 106) rfl d_On_told_106 (by assumption) (by assumption) ?_
    refine r_callVN (pc := 109) (As := []) (k := 3) (N := 9) (T := T_Mg) k_On_164 im_Mg_hasDay se_Mg_hasDay rfl (by decide) rfl (by decide) d_On_told_109 nT (c_Mg_hasDay hN hok) rfl (Nat.le_of_ble_eq_true rfl) (by omega) (by omega) (by omega) (fun v S' I' J' hq => ?_)
    obtain ⟨rfl, rfl, rfl, rfl⟩ := hq
    exact r_iret d_On_told_112 rfl (by omega) (by omega) (⟨⟨_, rfl⟩, rfl, qFr.rf, fun _ _ => rfl⟩)
  by_cases k6 : x = 6
  · rw [k6]
    refine r_tableIn (pc := 1) (off := 112) (tgt := 113) d_On_told_1 (by decide) (by decide) (by decide +kernel) (by decide) ?_
    refine lda_n_2_0 (pc := 113) d_On_told_113 ?_
    refine g_On_46 (pc := 114) rfl d_On_told_114 (by assumption) (by assumption) ?_
    refine lda_n_2_0 (pc := 117) d_On_told_117 ?_
    refine g_On_23 (pc := 118) rfl d_On_told_118 (by assumption) (by assumption) ?_
    refine r_callVN (pc := 121) (As := [.ref (qb E + 6)]) (k := 6) (N := 10) (T := T_Ro) k_On_167 im_Ro_agreed se_Ro_agreed rfl (by decide) rfl (by decide) d_On_told_121 rT (c_Ro_agreed hRo0 hN hok hI hw.pos (by omega) hl hl6) rfl (Nat.le_of_ble_eq_true rfl) (by omega) (by omega) (by omega) (fun v S' I' J' hq => ?_)
    obtain ⟨r, rfl, rfl, fr, rfl, -⟩ := hq
    exact r_iret d_On_told_124 rfl (by omega) (by omega) (⟨⟨_, rfl⟩, rfl, fr, fun _ _ => rfl⟩)
  by_cases k7 : x = 7
  · rw [k7]
    refine r_tableIn (pc := 1) (off := 124) (tgt := 125) d_On_told_1 (by decide) (by decide) (by decide +kernel) (by decide) ?_
    refine lda_n_2_0 (pc := 125) d_On_told_125 ?_
    refine g_On_46 (pc := 126) rfl d_On_told_126 (by assumption) (by assumption) ?_
    refine lda_n_2_0 (pc := 129) d_On_told_129 ?_
    refine g_On_23 (pc := 130) rfl d_On_told_130 (by assumption) (by assumption) ?_
    refine r_iconst (pc := 133) (v := 0) d_On_told_133 rfl ?_
    refine r_callVN (pc := 134) (As := [.ref (qb E + 6), .int 0]) (k := 6) (N := 10) (T := T_Ro) k_On_171 im_Ro_dear se_Ro_dear rfl (by decide) rfl (by decide) d_On_told_134 rT (c_Ro_dear hRo0 hN hok hI hw.pos (by omega) hc hc6) rfl (Nat.le_of_ble_eq_true rfl) (by omega) (by omega) (by omega) (fun v S' I' J' hq => ?_)
    obtain ⟨r, rfl, rfl, fr, rfl, -⟩ := hq
    exact r_iret d_On_told_137 rfl (by omega) (by omega) (⟨⟨_, rfl⟩, rfl, fr, fun _ _ => rfl⟩)
  by_cases k8 : x = 8
  · rw [k8]
    refine r_tableIn (pc := 1) (off := 137) (tgt := 138) d_On_told_1 (by decide) (by decide) (by decide +kernel) (by decide) ?_
    refine lda_n_2_0 (pc := 138) d_On_told_138 ?_
    refine g_On_46 (pc := 139) rfl d_On_told_139 (by assumption) (by assumption) ?_
    refine lda_n_2_0 (pc := 142) d_On_told_142 ?_
    refine g_On_23 (pc := 143) rfl d_On_told_143 (by assumption) (by assumption) ?_
    refine r_iconst (pc := 146) (v := 1) d_On_told_146 rfl ?_
    refine r_callVN (pc := 147) (As := [.ref (qb E + 6), .int 1]) (k := 6) (N := 10) (T := T_Ro) k_On_171 im_Ro_dear se_Ro_dear rfl (by decide) rfl (by decide) d_On_told_147 rT (c_Ro_dear hRo0 hN hok hI hw.pos (by omega) hc hc6) rfl (Nat.le_of_ble_eq_true rfl) (by omega) (by omega) (by omega) (fun v S' I' J' hq => ?_)
    obtain ⟨r, rfl, rfl, fr, rfl, -⟩ := hq
    exact r_iret d_On_told_150 rfl (by omega) (by omega) (⟨⟨_, rfl⟩, rfl, fr, fun _ _ => rfl⟩)
  refine r_tableOut (pc := 1) (tgt := 151) d_On_told_1 (by simp only [← Int32.toInt_inj, Int32.reduceToInt] at k0 k1 k2 k3 k4 k5 k6 k7 k8; omega) (by decide) ?_
  refine r_iconst (pc := 151) (v := (-1)) d_On_told_151 rfl ?_
  exact r_iret d_On_told_152 rfl (by omega) (by omega) (⟨⟨_, rfl⟩, rfl, qFr.rf, fun _ _ => rfl⟩)
end H5
