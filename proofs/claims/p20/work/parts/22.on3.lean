/-! the object's calls: mourners -/
theorem qm1 {n : Nat} (h : 0 < n) : nI n - 1 = nI (n - 1) := by
  obtain ⟨k, rfl⟩ : ∃ k, n = k + 1 := ⟨n - 1, by omega⟩
  exact nI_pred k
theorem qisM_y {x : Int32} {c : Nat} (hc : c < 2 ^ 31) (h : ¬ qwithin x 0 (nI c - 1) = 0) : ∃ p, p < c ∧ x = nI p := by
  obtain ⟨h1, h2⟩ := qwithin_y h
  rw [Int32.le_iff_toInt_le] at h1 h2
  have e1 : (0 : Int32).toInt = 0 := rfl
  rw [e1] at h1
  rcases Nat.eq_zero_or_pos c with rfl | hp
  · exfalso
    have e : (nI 0 - 1 : Int32).toInt = -1 := by decide
    omega
  · obtain ⟨p, hp2, rfl⟩ : ∃ p, p < 2 ^ 31 ∧ x = nI p := by
      refine ⟨x.toInt.toNat, ?_, ?_⟩
      · have := Int32.toInt_lt x; omega
      · rw [← Int32.toInt_inj, nI_toInt (by have := Int32.toInt_lt x; omega)]; omega
    rw [qm1 hp, nI_toInt hp2, nI_toInt (by omega)] at h2
    exact ⟨p, by omega, rfl⟩
theorem qisM_n {x : Int32} {c : Nat} (hc : c < 2 ^ 31) (h : qwithin x 0 (nI c - 1) = 0) : ∀ p, p < c → x ≠ nI p := by
  intro p hp e
  subst e
  refine qwithin_n h ⟨?_, ?_⟩
  · exact Int32.not_lt.mp (nI_pos (by omega))
  · rw [qm1 (show 0 < c by omega)]
    exact nI_le (by omega) (by omega)
theorem qisM_p {p c : Nat} (hc : c < 2 ^ 31) (hp : p < c) : qwithin (nI p) 0 (nI c - 1) = 1 := by
  rcases (by exact qwithin_b : qbool (qwithin (nI p) 0 (nI c - 1))) with h | h
  · exact absurd rfl (qisM_n hc h p hp)
  · exact h
def aMourner (c : Nat) (kd v g : Int32) : Int32 := if qwithin kd 0 6 = 0 then -1 else if qwithin v 0 9 = 0 then -2 else if qwithin g 0 99 = 0 then -2 else if c < 6 then nI c else -4
def cMournerI (I : qI) (c : Nat) (kd v g : Int32) : qI := if qwithin kd 0 6 = 0 then I else if qwithin v 0 9 = 0 then I else if qwithin g 0 99 = 0 then I else if c < 6 then qup (qcomes I (qm 6 c) kd v g) 6 1 (nI (c + 1)) else I
section ON3
variable {E : qE} {S : qSh} {I : qI} {J : qJ} {w0 w1 w2 bl : Nat}
theorem c_On_isMourner {x : Int32} (hO : isOn S w0 w1 w2 bl) : qMet E y_On_isMourner b_On_isMourner 2 (some .boolean) 1 0 0 [.ref (qb E + 0), .int x] S I J (qPi S I J (qwithin x 0 (I 6 1 - 1))) := by
  obtain ⟨oT, oR0, oR1, oR2, oR3, oR5, oR6, oR8, oR9, oR10, hI1, hN, hA, hM3, hRe, hBl, hRo, hAc, tA, tR, tT⟩ := hO
  have hN0 := hN
  obtain ⟨mT, mA1, mA2, mR0, mR2, mR5, mR6, mR7, mR8, nS, nP, nB, nI0, mRp, mMp⟩ := hN
  refine qMet.of (L := [some (.ref (qb E + 0)), some (.int x)]) (by decide +kernel) (Nat.le_of_ble_eq_true rfl) rfl ?_
  refine ldi_n_2_1 (pc := 0) d_On_isMourner_0 ?_
  refine r_iconst (pc := 1) (v := 0) d_On_isMourner_1 rfl ?_
  refine lda_n_2_0 (pc := 2) d_On_isMourner_2 ?_
  refine g_On_23 (pc := 3) rfl d_On_isMourner_3 (by assumption) (by assumption) ?_
  refine g_On_68 (pc := 6) rfl d_On_isMourner_6 (by assumption) ?_
  refine r_iconst (pc := 9) (v := 1) d_On_isMourner_9 rfl ?_
  refine r_isub (pc := 10) d_On_isMourner_10 ?_
  refine r_callS (pc := 11) (As := [.int x, .int 0, .int (I 6 1 - 1)]) k_On_64 sw_On_within rfl (by decide) d_On_isMourner_11 (c_On_within _ _ _) rfl (Nat.le_of_ble_eq_true rfl) (by omega) (by omega) (by omega) (fun v S' I' J' hq => ?_)
  obtain ⟨rfl, rfl, rfl, rfl⟩ := hq
  exact r_nret d_On_isMourner_14 rfl (qbool_n (by first | exact Or.inl rfl | exact Or.inr rfl | assumption | exact qwithin_b | exact qbit_b)) (by omega) (by omega) (⟨rfl, rfl, rfl, rfl⟩)
theorem c_On_mourner {kd v g : Int32} {c : Nat} (hO : isOn S w0 w1 w2 bl) (hc : I 6 1 = nI c) (hc6 : c ≤ 6) : qMet E y_On_mourner b_On_mourner 4 (some .int) 1 0 0 [.ref (qb E + 0), .int kd, .int v, .int g] S I J (fun r S' I' J' => r = some (.int (aMourner c kd v g)) ∧ S = S' ∧ I' = cMournerI I c kd v g ∧ J = J') := by
  unfold aMourner cMournerI
  obtain ⟨oT, oR0, oR1, oR2, oR3, oR5, oR6, oR8, oR9, oR10, hI1, hN, hA, hM3, hRe, hBl, hRo, hAc, tA, tR, tT⟩ := hO
  have hN0 := hN
  obtain ⟨mT, mA1, mA2, mR0, mR2, mR5, mR6, mR7, mR8, nS, nP, nB, nI0, mRp, mMp⟩ := hN
  refine qMet.of (L := [some (.ref (qb E + 0)), some (.int kd), some (.int v), some (.int g)]) (by decide +kernel) (Nat.le_of_ble_eq_true rfl) rfl ?_
  refine ldi_n_4_1 (pc := 0) d_On_mourner_0 ?_
  refine r_iconst (pc := 1) (v := 0) d_On_mourner_1 rfl ?_
  refine r_bipush (pc := 2) (v := 6) d_On_mourner_2 rfl ?_
  refine r_callS (pc := 4) (As := [.int kd, .int 0, .int 6]) k_On_64 sw_On_within rfl (by decide) d_On_mourner_4 (c_On_within _ _ _) rfl (Nat.le_of_ble_eq_true rfl) (by omega) (by omega) (by omega) (fun v S' I' J' hq => ?_)
  obtain ⟨rfl, rfl, rfl, rfl⟩ := hq
  refine r_if_ne (pc := 7) (tgt := 12) d_On_mourner_7 (by decide) (fun c1 => ?_) (fun c1 => ?_)
  · rw [if_neg c1, if_neg c1]
    refine ldi_n_4_2 (pc := 12) d_On_mourner_12 ?_
    refine r_iconst (pc := 13) (v := 0) d_On_mourner_13 rfl ?_
    refine r_bipush (pc := 14) (v := 9) d_On_mourner_14 rfl ?_
    refine r_callS (pc := 16) (As := [.int v, .int 0, .int 9]) k_On_64 sw_On_within rfl (by decide) d_On_mourner_16 (c_On_within _ _ _) rfl (Nat.le_of_ble_eq_true rfl) (by omega) (by omega) (by omega) (fun v S' I' J' hq => ?_)
    obtain ⟨rfl, rfl, rfl, rfl⟩ := hq
    refine r_if_eq (pc := 19) (tgt := 32) d_On_mourner_19 (by decide) (fun c2 => ?_) (fun c2 => ?_)
    · rw [if_pos c2, if_pos c2]
      refine r_bipush (pc := 32) (v := (-2)) d_On_mourner_32 rfl ?_
      refine r_iret d_On_mourner_34 rfl (by omega) (by omega) ?_
      exact ⟨rfl, rfl, rfl, rfl⟩
    · rw [if_neg c2, if_neg c2]
      refine ldi_n_4_3 (pc := 22) d_On_mourner_22 ?_
      refine r_iconst (pc := 23) (v := 0) d_On_mourner_23 rfl ?_
      refine r_bipush (pc := 24) (v := 99) d_On_mourner_24 rfl ?_
      refine r_callS (pc := 26) (As := [.int g, .int 0, .int 99]) k_On_64 sw_On_within rfl (by decide) d_On_mourner_26 (c_On_within _ _ _) rfl (Nat.le_of_ble_eq_true rfl) (by omega) (by omega) (by omega) (fun v S' I' J' hq => ?_)
      obtain ⟨rfl, rfl, rfl, rfl⟩ := hq
      refine r_if_ne (pc := 29) (tgt := 35) d_On_mourner_29 (by decide) (fun c3 => ?_) (fun c3 => ?_)
      · rw [if_neg c3, if_neg c3]
        refine lda_n_4_0 (pc := 35) d_On_mourner_35 ?_
        refine g_On_23 (pc := 36) rfl d_On_mourner_36 (by assumption) (by assumption) ?_
        refine g_On_68 (pc := 39) rfl d_On_mourner_39 (by assumption) ?_
        refine r_bipush (pc := 42) (v := 6) d_On_mourner_42 rfl ?_
        rw [hc]
        refine r_icmp_lt (pc := 44) (tgt := 50) d_On_mourner_44 (by decide) (fun c4 => ?_) (fun c4 => ?_)
        · have h5 : c < 6 := by
            rcases Nat.lt_or_ge c 6 with h | h
            · exact h
            · exact absurd c4 (nI_nlt (a := c) (b := 6) h (by omega))
          rw [if_pos h5, if_pos h5]
          have hin : vp_in (nI c) 6 := vp_in_nI h5 (by omega)
          have hRc : qR S (6 + 1) (nI c).toNatClampNeg = some (qm 6 c) := by rw [qcl (by omega)]; exact mRp c h5
          have hMc : isMo S (qm 6 c) := mMp c h5
          have hMT := hMc.1
          refine lda_n_4_0 (pc := 50) d_On_mourner_50 ?_
          refine g_On_23 (pc := 51) rfl d_On_mourner_51 (by assumption) (by assumption) ?_
          refine g_On_72 (pc := 54) rfl d_On_mourner_54 (by assumption) (by assumption) ?_
          refine lda_n_4_0 (pc := 57) d_On_mourner_57 ?_
          refine g_On_23 (pc := 58) rfl d_On_mourner_58 (by assumption) (by assumption) ?_
          refine g_On_68 (pc := 61) rfl d_On_mourner_61 (by assumption) ?_
          rw [hc]
          refine r_aald14 (pc := 64) d_On_mourner_64 (by assumption) (by first | assumption | exact vp_in_nI (by omega) (by omega) | (unfold vp_in; decide)) (by assumption) ?_
          refine ldi_n_4_1 (pc := 65) d_On_mourner_65 ?_
          refine ldi_n_4_2 (pc := 66) d_On_mourner_66 ?_
          refine ldi_n_4_3 (pc := 67) d_On_mourner_67 ?_
          refine r_callVN (pc := 68) (As := [.int kd, .int v, .int g]) (k := 2) (N := 8) (T := T_Mo) k_On_76 im_Mo_comes se_Mo_comes rfl (by decide) rfl (by decide) d_On_mourner_68 hMT (c_Mo_comes hMc) rfl (Nat.le_of_ble_eq_true rfl) (by omega) (by omega) (by omega) (fun r S' I' J' hq => ?_)
          obtain ⟨rfl, rfl, rfl, rfl⟩ := hq
          have e1 : qcomes I (qm 6 c) kd v g 6 1 = nI c := by
            unfold qcomes qm
            rw [qfil_o (by omega), qup_o (by omega), qup_o (by omega), qup_o (by omega), qup_o (by omega), qup_o (by omega), qup_o (by omega), hc]
          refine lda_n_4_0 (pc := 71) d_On_mourner_71 ?_
          refine g_On_23 (pc := 72) rfl d_On_mourner_72 (by assumption) (by assumption) ?_
          refine r_dup (pc := 75) d_On_mourner_75 rfl ?_
          refine g_On_68 (pc := 76) rfl d_On_mourner_76 (by assumption) ?_
          refine r_iconst (pc := 79) (v := 1) d_On_mourner_79 rfl ?_
          refine r_iadd (pc := 80) d_On_mourner_80 ?_
          refine p_On_68 (pc := 81) rfl d_On_mourner_81 (by assumption) ?_
          refine lda_n_4_0 (pc := 84) d_On_mourner_84 ?_
          refine g_On_23 (pc := 85) rfl d_On_mourner_85 (by assumption) (by assumption) ?_
          refine g_On_68 (pc := 88) rfl d_On_mourner_88 (by assumption) ?_
          refine r_iconst (pc := 91) (v := 1) d_On_mourner_91 rfl ?_
          rw [e1, q1, qup_at]
          refine r_isub (pc := 92) d_On_mourner_92 ?_
          rw [nI_pred c]
          exact r_iret d_On_mourner_93 rfl (by omega) (by omega) (⟨rfl, rfl, rfl, rfl⟩)
        · have h5 : ¬ c < 6 := fun h => c4 (nI_lt (a := c) (b := 6) h (by omega))
          rw [if_neg h5, if_neg h5]
          refine r_bipush (pc := 47) (v := (-4)) d_On_mourner_47 rfl ?_
          refine r_iret d_On_mourner_49 rfl (by omega) (by omega) ?_
          exact ⟨rfl, rfl, rfl, rfl⟩
      · skip
        rw [if_pos c3, if_pos c3]
        refine r_bipush (pc := 32) (v := (-2)) d_On_mourner_32 rfl ?_
        refine r_iret d_On_mourner_34 rfl (by omega) (by omega) ?_
        exact ⟨rfl, rfl, rfl, rfl⟩
  · skip
    rw [if_pos c1, if_pos c1]
    refine r_iconst (pc := 10) (v := (-1)) d_On_mourner_10 rfl ?_
    refine r_iret d_On_mourner_11 rfl (by omega) (by omega) ?_
    exact ⟨rfl, rfl, rfl, rfl⟩
end ON3
