/-! of, told exactly -/
def ca_of (I : qI) (c l w0 : Nat) (x w : Int32) : Int32 := if qwithin x 0 (nI c - 1) = 0 then -1 else if w = 0 then I (qm 6 x.toNatClampNeg) 1 else if w = 1 then I (qm 6 x.toNatClampNeg) 2 else if w = 2 then I (qm 6 x.toNatClampNeg) 3 else if w = 3 then I (qm 6 x.toNatClampNeg) 4 else if w = 4 then I (qm 6 x.toNatClampNeg) 5 else if w = 5 then (if I (qm 6 x.toNatClampNeg) 6 = 0 then 0 else 1) else if w = 6 then qplace (I 8) x l l else if w = 7 then qpainAt I 6 w0 (qm 6 x.toNatClampNeg) (nI 0) else -1
def ga_of (I : qI) (c l d : Nat) (x w : Int32) : Int32 := if qwithin x 0 (nI c - 1) = 0 then -1 else if w = 0 then I 115 x.toNatClampNeg else if w = 1 then I 116 x.toNatClampNeg else if w = 2 then I 117 x.toNatClampNeg else if w = 3 then I 118 x.toNatClampNeg else if w = 4 then I 119 x.toNatClampNeg else if w = 5 then I 120 x.toNatClampNeg else if w = 6 then qplace (I 122) x l l else if w = 7 then mpain I x.toNatClampNeg (nI d) (I 118 x.toNatClampNeg) else -1
section V39
variable {E : qE} {S : qSh} {I : qI} {J : qJ} {w0 w1 w2 bl : Nat}
theorem c_On_ofX {x w : Int32} {c l d : Nat} (hO : isOn S w0 w1 w2 bl) (hw : qW1 w0) (hI : qIsOK I w0) (hc : I 6 1 = nI c) (hc6 : c ≤ 6) (hl : I 6 3 = nI l) (hl6 : l ≤ 6) (hd : I 6 4 = nI d) (hd9 : d ≤ 9999) : qMet E y_On_of b_On_of 4 (some .int) 4 0 0 [.ref (qb E + 0), .int x, .int w] S I J (fun v S' I' J' => v = some (.int (ca_of I c l w0 x w)) ∧ S = S' ∧ qFr (qPr w0) I I' ∧ ∀ a, a ≠ 94 → J' a = J a) := by
  have hO0 := hO
  obtain ⟨oT, oR0, oR1, oR2, oR3, oR5, oR6, oR8, oR9, oR10, hI1, hN, hA, hM3, hRe, hBl, hRo, hAc, tA, tR, tT⟩ := hO
  have hN1 := hN
  have nT := hN.1
  obtain ⟨mT, mA1, mA2, mR0, mR2, mR5, mR6, mR7, mR8, nS, nP, nB, nI0, mRp, mMp⟩ := hN
  refine qMet.of (L := [some (.ref (qb E + 0)), some (.int x), some (.int w), none]) (by decide +kernel) (Nat.le_of_ble_eq_true rfl) rfl ?_
  refine lda_n_4_0 (pc := 0) d_On_of_0 ?_
  refine ldi_n_4_1 (pc := 1) d_On_of_1 ?_
  refine r_callV (pc := 2) (As := [.int x]) (k := 8) (N := 11) (T := T_On) k_On_82 im_On_isMourner se_On_isMourner rfl (by decide) rfl (by decide) d_On_of_2 (by assumption) (c_On_isMourner hO0) rfl (Nat.le_of_ble_eq_true rfl) (by omega) (by omega) (by omega) (fun v S' I' J' hq => ?_)
  obtain ⟨rfl, rfl, rfl, rfl⟩ := hq
  rw [hc]
  refine r_if_ne (pc := 5) (tgt := 10) d_On_of_5 (by decide) (fun c1 => ?_) (fun c1 => ?_)
  · obtain ⟨p, hp, rfl⟩ := qisM_y (by omega) c1
    have hin : vp_in (nI p) 6 := vp_in_nI (by omega) (by omega)
    have hRc : qR S (6 + 1) (nI p).toNatClampNeg = some (qm 6 p) := by rw [qcl (by omega)]; exact mRp p (by omega)
    have hMo : isMo S (qm 6 p) := mMp p (by omega)
    have hMT : qT S (qm 6 p) 2 := hMo.1
    have lo := qm_lo (o := 6) (p := p)
    have hi := qm_hi (o := 6) (p := p) (by omega)
    refine lda_n_4_0 (pc := 10) d_On_of_10 ?_
    refine g_On_23 (pc := 11) rfl d_On_of_11 (by assumption) (by assumption) ?_
    refine g_On_72 (pc := 14) rfl d_On_of_14 (by assumption) (by assumption) ?_
    refine ldi_n_4_1 (pc := 17) d_On_of_17 ?_
    refine r_aald14 (pc := 18) d_On_of_18 (by assumption) (by first | assumption | exact vp_in_nI (by omega) (by omega) | (unfold vp_in; decide)) (by assumption) ?_
    refine sta_n_4_3 (pc := 19) d_On_of_19 rfl ?_
    refine ldi_n_4_2 (pc := 20) d_On_of_20 ?_
    by_cases k0 : w = 0
    · rw [k0]
      refine r_tableIn (pc := 21) (off := 47) (tgt := 68) d_On_of_21 (by decide) (by decide) (by decide +kernel) (by decide) ?_
      refine lda_n_4_3 (pc := 68) d_On_of_68 ?_
      refine g_On_86 (pc := 69) rfl d_On_of_69 (by assumption) ?_
      exact r_iret d_On_of_72 rfl (by omega) (by omega) (⟨(by unfold ca_of; rw [if_neg c1, if_pos (show (0 : Int32) = 0 from rfl), qcl (by omega)]), rfl, qFr.rf, fun _ _ => rfl⟩)
    by_cases k1 : w = 1
    · rw [k1]
      refine r_tableIn (pc := 21) (off := 52) (tgt := 73) d_On_of_21 (by decide) (by decide) (by decide +kernel) (by decide) ?_
      refine lda_n_4_3 (pc := 73) d_On_of_73 ?_
      refine g_On_89 (pc := 74) rfl d_On_of_74 (by assumption) ?_
      exact r_iret d_On_of_77 rfl (by omega) (by omega) (⟨(by unfold ca_of; rw [if_neg c1, if_neg (show ¬ (1 : Int32) = 0 by decide), if_pos (show (1 : Int32) = 1 from rfl), qcl (by omega)]), rfl, qFr.rf, fun _ _ => rfl⟩)
    by_cases k2 : w = 2
    · rw [k2]
      refine r_tableIn (pc := 21) (off := 57) (tgt := 78) d_On_of_21 (by decide) (by decide) (by decide +kernel) (by decide) ?_
      refine lda_n_4_3 (pc := 78) d_On_of_78 ?_
      refine g_On_92 (pc := 79) rfl d_On_of_79 (by assumption) ?_
      exact r_iret d_On_of_82 rfl (by omega) (by omega) (⟨(by unfold ca_of; rw [if_neg c1, if_neg (show ¬ (2 : Int32) = 0 by decide), if_neg (show ¬ (2 : Int32) = 1 by decide), if_pos (show (2 : Int32) = 2 from rfl), qcl (by omega)]), rfl, qFr.rf, fun _ _ => rfl⟩)
    by_cases k3 : w = 3
    · rw [k3]
      refine r_tableIn (pc := 21) (off := 62) (tgt := 83) d_On_of_21 (by decide) (by decide) (by decide +kernel) (by decide) ?_
      refine lda_n_4_3 (pc := 83) d_On_of_83 ?_
      refine g_On_95 (pc := 84) rfl d_On_of_84 (by assumption) ?_
      exact r_iret d_On_of_87 rfl (by omega) (by omega) (⟨(by unfold ca_of; rw [if_neg c1, if_neg (show ¬ (3 : Int32) = 0 by decide), if_neg (show ¬ (3 : Int32) = 1 by decide), if_neg (show ¬ (3 : Int32) = 2 by decide), if_pos (show (3 : Int32) = 3 from rfl), qcl (by omega)]), rfl, qFr.rf, fun _ _ => rfl⟩)
    by_cases k4 : w = 4
    · rw [k4]
      refine r_tableIn (pc := 21) (off := 67) (tgt := 88) d_On_of_21 (by decide) (by decide) (by decide +kernel) (by decide) ?_
      refine lda_n_4_3 (pc := 88) d_On_of_88 ?_
      refine g_On_98 (pc := 89) rfl d_On_of_89 (by assumption) ?_
      exact r_iret d_On_of_92 rfl (by omega) (by omega) (⟨(by unfold ca_of; rw [if_neg c1, if_neg (show ¬ (4 : Int32) = 0 by decide), if_neg (show ¬ (4 : Int32) = 1 by decide), if_neg (show ¬ (4 : Int32) = 2 by decide), if_neg (show ¬ (4 : Int32) = 3 by decide), if_pos (show (4 : Int32) = 4 from rfl), qcl (by omega)]), rfl, qFr.rf, fun _ _ => rfl⟩)
    by_cases k5 : w = 5
    · rw [k5]
      refine r_tableIn (pc := 21) (off := 72) (tgt := 93) d_On_of_21 (by decide) (by decide) (by decide +kernel) (by decide) ?_
      refine lda_n_4_3 (pc := 93) d_On_of_93 ?_
      refine g_On_101 (pc := 94) rfl d_On_of_94 (by assumption) ?_
      refine r_callS (pc := 97) (As := [.int (I (qm 6 p) 6)]) k_On_105 sw_On_bit rfl (by decide) d_On_of_97 (c_On_bit _) rfl (Nat.le_of_ble_eq_true rfl) (by omega) (by omega) (by omega) (fun v S' I' J' hq => ?_)
      obtain ⟨rfl, rfl, rfl, rfl⟩ := hq
      exact r_iret d_On_of_100 rfl (by omega) (by omega) (⟨(by unfold ca_of; rw [if_neg c1, if_neg (show ¬ (5 : Int32) = 0 by decide), if_neg (show ¬ (5 : Int32) = 1 by decide), if_neg (show ¬ (5 : Int32) = 2 by decide), if_neg (show ¬ (5 : Int32) = 3 by decide), if_neg (show ¬ (5 : Int32) = 4 by decide), if_pos (show (5 : Int32) = 5 from rfl), qcl (by omega)]), rfl, qFr.rf, fun _ _ => rfl⟩)
    by_cases k6 : w = 6
    · rw [k6]
      refine r_tableIn (pc := 21) (off := 80) (tgt := 101) d_On_of_21 (by decide) (by decide) (by decide +kernel) (by decide) ?_
      refine lda_n_4_0 (pc := 101) d_On_of_101 ?_
      refine g_On_23 (pc := 102) rfl d_On_of_102 (by assumption) (by assumption) ?_
      refine ldi_n_4_1 (pc := 105) d_On_of_105 ?_
      refine r_callVN (pc := 106) (As := [.int (nI p)]) (k := 3) (N := 9) (T := T_Mg) k_On_109 im_Mg_placeOf se_Mg_placeOf rfl (by decide) rfl (by decide) d_On_of_106 nT (c_Mg_placeOf hN1 hl hl6) rfl (Nat.le_of_ble_eq_true rfl) (by omega) (by omega) (by omega) (fun v S' I' J' hq => ?_)
      obtain ⟨rfl, rfl, rfl, rfl⟩ := hq
      exact r_iret d_On_of_109 rfl (by omega) (by omega) (⟨(by unfold ca_of; rw [if_neg c1, if_neg (show ¬ (6 : Int32) = 0 by decide), if_neg (show ¬ (6 : Int32) = 1 by decide), if_neg (show ¬ (6 : Int32) = 2 by decide), if_neg (show ¬ (6 : Int32) = 3 by decide), if_neg (show ¬ (6 : Int32) = 4 by decide), if_neg (show ¬ (6 : Int32) = 5 by decide), if_pos (show (6 : Int32) = 6 from rfl)]), rfl, qFr.rf, fun _ _ => rfl⟩)
    by_cases k7 : w = 7
    · rw [k7]
      refine r_tableIn (pc := 21) (off := 89) (tgt := 110) d_On_of_21 (by decide) (by decide) (by decide +kernel) (by decide) ?_
      refine lda_n_4_0 (pc := 110) d_On_of_110 ?_
      refine g_On_23 (pc := 111) rfl d_On_of_111 (by assumption) (by assumption) ?_
      refine lda_n_4_3 (pc := 114) d_On_of_114 ?_
      refine r_iconst (pc := 115) (v := 0) d_On_of_115 rfl ?_
      refine r_callVN (pc := 116) (As := [.ref (qb E + qm 6 p), .int (nI 0)]) (k := 3) (N := 9) (T := T_Mg) k_On_113 im_Mg_painOf se_Mg_painOf rfl (by decide) rfl (by decide) d_On_of_116 nT (c_Mg_painOf hN1 hMo (by unfold qW1 at hw; omega) hI hd (by omega)) rfl (Nat.le_of_ble_eq_true rfl) (by omega) (by omega) (by omega) (fun v S' I' J' hq => ?_)
      obtain ⟨rfl, rfl, rfl, rfl⟩ := hq
      exact r_iret d_On_of_119 rfl (by omega) (by omega) (⟨(by unfold ca_of; rw [if_neg c1, if_neg (show ¬ (7 : Int32) = 0 by decide), if_neg (show ¬ (7 : Int32) = 1 by decide), if_neg (show ¬ (7 : Int32) = 2 by decide), if_neg (show ¬ (7 : Int32) = 3 by decide), if_neg (show ¬ (7 : Int32) = 4 by decide), if_neg (show ¬ (7 : Int32) = 5 by decide), if_neg (show ¬ (7 : Int32) = 6 by decide), if_pos (show (7 : Int32) = 7 from rfl), qcl (by omega)]), rfl, qFr.rf.fil (Or.inr rfl), fun _ _ => rfl⟩)
    refine r_tableOut (pc := 21) (tgt := 120) d_On_of_21 (by simp only [← Int32.toInt_inj, Int32.reduceToInt] at k0 k1 k2 k3 k4 k5 k6 k7; omega) (by decide) ?_
    refine r_iconst (pc := 120) (v := (-1)) d_On_of_120 rfl ?_
    exact r_iret d_On_of_121 rfl (by omega) (by omega) (⟨(by unfold ca_of; rw [if_neg c1, if_neg k0, if_neg k1, if_neg k2, if_neg k3, if_neg k4, if_neg k5, if_neg k6, if_neg k7]), rfl, qFr.rf, fun _ _ => rfl⟩)
  · refine r_iconst (pc := 8) (v := (-1)) d_On_of_8 rfl ?_
    exact r_iret d_On_of_9 rfl (by omega) (by omega) (⟨(by unfold ca_of; rw [if_pos c1]), rfl, qFr.rf, fun _ _ => rfl⟩)
theorem c_Md_ofX {x w : Int32} {c l d0 : Nat} (hM : isMd S) (h : mDay I 9999) (hc : I 114 0 = nI c) (c6 : c ≤ 6) (hl : I 114 8 = nI l) (l6 : l ≤ 6) (hd0 : I 114 10 = nI d0) (hd9 : d0 ≤ 9999) : qMet E y_Md_of b_Md_of 3 (some .int) 4 0 0 [.ref (qb E + 114), .int x, .int w] S I J (fun v S' I' J' => v = some (.int (ga_of I c l d0 x w)) ∧ S = S' ∧ mSame I I' ∧ J = J') := by
  have hT := hM.1
  have f1 := hM.r 0 rfl
  have g1 := hM.a 0 rfl
  have f2 := hM.r 1 rfl
  have g2 := hM.a 1 rfl
  have f3 := hM.r 2 rfl
  have g3 := hM.a 2 rfl
  have f4 := hM.r 3 rfl
  have g4 := hM.a 3 rfl
  have f5 := hM.r 4 rfl
  have g5 := hM.a 4 rfl
  have f6 := hM.r 5 rfl
  have g6 := hM.a 5 rfl
  obtain ⟨⟨n, i1, i2⟩, -⟩ := id h
  refine qMet.of (L := [some (.ref (qb E + 114)), some (.int x), some (.int w)]) (by decide +kernel) (Nat.le_of_ble_eq_true rfl) rfl ?_
  refine lda_n_3_0 (pc := 0) d_Md_of_0 ?_
  refine ldi_n_3_1 (pc := 1) d_Md_of_1 ?_
  refine r_callV (pc := 2) (As := [.int x]) (k := 9) (N := 56) (T := T_Md) k_Md_127 im_Md_isOne se_Md_isOne rfl (by decide) rfl (by decide) d_Md_of_2 hT (c_Md_isOne hM) rfl (Nat.le_of_ble_eq_true rfl) (by omega) (by omega) (by omega) (fun v S' I' J' hq => ?_)
  obtain ⟨rfl, rfl, rfl, rfl⟩ := hq
  rw [hc]
  refine r_if_ne (pc := 5) (tgt := 10) d_Md_of_5 (by decide) (fun c1 => ?_) (fun c1 => ?_)
  · obtain ⟨p, hp, rfl⟩ := qisM_y (by omega) c1
    have hin : vp_in (nI p) 6 := vp_in_nI (by omega) (by omega)
    refine ldi_n_3_2 (pc := 10) d_Md_of_10 ?_
    by_cases k0 : w = 0
    · rw [k0]
      refine r_tableIn (pc := 11) (off := 45) (tgt := 56) d_Md_of_11 (by decide) (by decide) (by decide +kernel) (by decide) ?_
      refine lda_n_3_0 (pc := 56) d_Md_of_56 ?_
      refine g_Md_9 (pc := 57) rfl d_Md_of_57 (by assumption) (by assumption) ?_
      refine ldi_n_3_1 (pc := 60) d_Md_of_60 ?_
      refine r_iald (pc := 61) d_Md_of_61 (by assumption) (by first | assumption | exact vp_in_nI (by omega) (by omega) | (unfold vp_in; decide)) ?_
      exact r_iret d_Md_of_62 rfl (by omega) (by omega) (⟨(by unfold ga_of; rw [if_neg c1, if_pos (show (0 : Int32) = 0 from rfl), qcl (by omega)]), rfl, mSame.rf, rfl⟩)
    by_cases k1 : w = 1
    · rw [k1]
      refine r_tableIn (pc := 11) (off := 52) (tgt := 63) d_Md_of_11 (by decide) (by decide) (by decide +kernel) (by decide) ?_
      refine lda_n_3_0 (pc := 63) d_Md_of_63 ?_
      refine g_Md_15 (pc := 64) rfl d_Md_of_64 (by assumption) (by assumption) ?_
      refine ldi_n_3_1 (pc := 67) d_Md_of_67 ?_
      refine r_iald (pc := 68) d_Md_of_68 (by assumption) (by first | assumption | exact vp_in_nI (by omega) (by omega) | (unfold vp_in; decide)) ?_
      exact r_iret d_Md_of_69 rfl (by omega) (by omega) (⟨(by unfold ga_of; rw [if_neg c1, if_neg (show ¬ (1 : Int32) = 0 by decide), if_pos (show (1 : Int32) = 1 from rfl), qcl (by omega)]), rfl, mSame.rf, rfl⟩)
    by_cases k2 : w = 2
    · rw [k2]
      refine r_tableIn (pc := 11) (off := 59) (tgt := 70) d_Md_of_11 (by decide) (by decide) (by decide +kernel) (by decide) ?_
      refine lda_n_3_0 (pc := 70) d_Md_of_70 ?_
      refine g_Md_18 (pc := 71) rfl d_Md_of_71 (by assumption) (by assumption) ?_
      refine ldi_n_3_1 (pc := 74) d_Md_of_74 ?_
      refine r_iald (pc := 75) d_Md_of_75 (by assumption) (by first | assumption | exact vp_in_nI (by omega) (by omega) | (unfold vp_in; decide)) ?_
      exact r_iret d_Md_of_76 rfl (by omega) (by omega) (⟨(by unfold ga_of; rw [if_neg c1, if_neg (show ¬ (2 : Int32) = 0 by decide), if_neg (show ¬ (2 : Int32) = 1 by decide), if_pos (show (2 : Int32) = 2 from rfl), qcl (by omega)]), rfl, mSame.rf, rfl⟩)
    by_cases k3 : w = 3
    · rw [k3]
      refine r_tableIn (pc := 11) (off := 66) (tgt := 77) d_Md_of_11 (by decide) (by decide) (by decide +kernel) (by decide) ?_
      refine lda_n_3_0 (pc := 77) d_Md_of_77 ?_
      refine g_Md_21 (pc := 78) rfl d_Md_of_78 (by assumption) (by assumption) ?_
      refine ldi_n_3_1 (pc := 81) d_Md_of_81 ?_
      refine r_iald (pc := 82) d_Md_of_82 (by assumption) (by first | assumption | exact vp_in_nI (by omega) (by omega) | (unfold vp_in; decide)) ?_
      exact r_iret d_Md_of_83 rfl (by omega) (by omega) (⟨(by unfold ga_of; rw [if_neg c1, if_neg (show ¬ (3 : Int32) = 0 by decide), if_neg (show ¬ (3 : Int32) = 1 by decide), if_neg (show ¬ (3 : Int32) = 2 by decide), if_pos (show (3 : Int32) = 3 from rfl), qcl (by omega)]), rfl, mSame.rf, rfl⟩)
    by_cases k4 : w = 4
    · rw [k4]
      refine r_tableIn (pc := 11) (off := 73) (tgt := 84) d_Md_of_11 (by decide) (by decide) (by decide +kernel) (by decide) ?_
      refine lda_n_3_0 (pc := 84) d_Md_of_84 ?_
      refine g_Md_24 (pc := 85) rfl d_Md_of_85 (by assumption) (by assumption) ?_
      refine ldi_n_3_1 (pc := 88) d_Md_of_88 ?_
      refine r_iald (pc := 89) d_Md_of_89 (by assumption) (by first | assumption | exact vp_in_nI (by omega) (by omega) | (unfold vp_in; decide)) ?_
      exact r_iret d_Md_of_90 rfl (by omega) (by omega) (⟨(by unfold ga_of; rw [if_neg c1, if_neg (show ¬ (4 : Int32) = 0 by decide), if_neg (show ¬ (4 : Int32) = 1 by decide), if_neg (show ¬ (4 : Int32) = 2 by decide), if_neg (show ¬ (4 : Int32) = 3 by decide), if_pos (show (4 : Int32) = 4 from rfl), qcl (by omega)]), rfl, mSame.rf, rfl⟩)
    by_cases k5 : w = 5
    · rw [k5]
      refine r_tableIn (pc := 11) (off := 80) (tgt := 91) d_Md_of_11 (by decide) (by decide) (by decide +kernel) (by decide) ?_
      refine lda_n_3_0 (pc := 91) d_Md_of_91 ?_
      refine g_Md_27 (pc := 92) rfl d_Md_of_92 (by assumption) (by assumption) ?_
      refine ldi_n_3_1 (pc := 95) d_Md_of_95 ?_
      refine r_iald (pc := 96) d_Md_of_96 (by assumption) (by first | assumption | exact vp_in_nI (by omega) (by omega) | (unfold vp_in; decide)) ?_
      exact r_iret d_Md_of_97 rfl (by omega) (by omega) (⟨(by unfold ga_of; rw [if_neg c1, if_neg (show ¬ (5 : Int32) = 0 by decide), if_neg (show ¬ (5 : Int32) = 1 by decide), if_neg (show ¬ (5 : Int32) = 2 by decide), if_neg (show ¬ (5 : Int32) = 3 by decide), if_neg (show ¬ (5 : Int32) = 4 by decide), if_pos (show (5 : Int32) = 5 from rfl), qcl (by omega)]), rfl, mSame.rf, rfl⟩)
    by_cases k6 : w = 6
    · rw [k6]
      refine r_tableIn (pc := 11) (off := 87) (tgt := 98) d_Md_of_11 (by decide) (by decide) (by decide +kernel) (by decide) ?_
      refine lda_n_3_0 (pc := 98) d_Md_of_98 ?_
      refine ldi_n_3_1 (pc := 99) d_Md_of_99 ?_
      refine r_callV (pc := 100) (As := [.int (nI p)]) (k := 9) (N := 56) (T := T_Md) k_Md_131 im_Md_placeOf se_Md_placeOf rfl (by decide) rfl (by decide) d_Md_of_100 hT (c_Md_placeOf hM hl l6) rfl (Nat.le_of_ble_eq_true rfl) (by omega) (by omega) (by omega) (fun v S' I' J' hq => ?_)
      obtain ⟨rfl, rfl, rfl, rfl⟩ := hq
      exact r_iret d_Md_of_103 rfl (by omega) (by omega) (⟨(by unfold ga_of; rw [if_neg c1, if_neg (show ¬ (6 : Int32) = 0 by decide), if_neg (show ¬ (6 : Int32) = 1 by decide), if_neg (show ¬ (6 : Int32) = 2 by decide), if_neg (show ¬ (6 : Int32) = 3 by decide), if_neg (show ¬ (6 : Int32) = 4 by decide), if_neg (show ¬ (6 : Int32) = 5 by decide), if_pos (show (6 : Int32) = 6 from rfl)]), rfl, mSame.rf, rfl⟩)
    by_cases k7 : w = 7
    · rw [k7]
      refine r_tableIn (pc := 11) (off := 93) (tgt := 104) d_Md_of_11 (by decide) (by decide) (by decide +kernel) (by decide) ?_
      refine lda_n_3_0 (pc := 104) d_Md_of_104 ?_
      refine ldi_n_3_1 (pc := 105) d_Md_of_105 ?_
      refine lda_n_3_0 (pc := 106) d_Md_of_106 ?_
      refine g_Md_135 (pc := 107) rfl d_Md_of_107 (by assumption) ?_
      refine lda_n_3_0 (pc := 110) d_Md_of_110 ?_
      refine g_Md_21 (pc := 111) rfl d_Md_of_111 (by assumption) (by assumption) ?_
      refine ldi_n_3_1 (pc := 114) d_Md_of_114 ?_
      refine r_iald (pc := 115) d_Md_of_115 (by assumption) (by first | assumption | exact vp_in_nI (by omega) (by omega) | (unfold vp_in; decide)) ?_
      rw [hd0]
      refine r_callV (pc := 116) (As := [_, _, _]) (k := 9) (N := 56) (T := T_Md) k_Md_138 im_Md_pain se_Md_pain rfl (by decide) rfl (by decide) d_Md_of_116 hT (c_Md_pain (dd := d0) hM i1 i2 (show p < 6 by omega) rfl (by omega)) rfl (Nat.le_of_ble_eq_true rfl) (by omega) (by omega) (by omega) (fun v S' I' J' hq => ?_)
      obtain ⟨rfl, rfl, hg, rfl⟩ := hq
      exact r_iret d_Md_of_119 rfl (by omega) (by omega) (⟨(by unfold ga_of; rw [if_neg c1, if_neg (show ¬ (7 : Int32) = 0 by decide), if_neg (show ¬ (7 : Int32) = 1 by decide), if_neg (show ¬ (7 : Int32) = 2 by decide), if_neg (show ¬ (7 : Int32) = 3 by decide), if_neg (show ¬ (7 : Int32) = 4 by decide), if_neg (show ¬ (7 : Int32) = 5 by decide), if_neg (show ¬ (7 : Int32) = 6 by decide), if_pos (show (7 : Int32) = 7 from rfl), qcl (by omega)]), rfl, mSame.q130 hg, rfl⟩)
    refine r_tableOut (pc := 11) (tgt := 120) d_Md_of_11 (by simp only [← Int32.toInt_inj, Int32.reduceToInt] at k0 k1 k2 k3 k4 k5 k6 k7; omega) (by decide) ?_
    refine r_iconst (pc := 120) (v := (-1)) d_Md_of_120 rfl ?_
    exact r_iret d_Md_of_121 rfl (by omega) (by omega) (⟨(by unfold ga_of; rw [if_neg c1, if_neg k0, if_neg k1, if_neg k2, if_neg k3, if_neg k4, if_neg k5, if_neg k6, if_neg k7]), rfl, mSame.rf, rfl⟩)
  · refine r_iconst (pc := 8) (v := (-1)) d_Md_of_8 rfl ?_
    exact r_iret d_Md_of_9 rfl (by omega) (by omega) (⟨(by unfold ga_of; rw [if_pos c1]), rfl, mSame.rf, rfl⟩)
theorem K_ofX {x w : Int32} (h : cINV S I J w0 w1 w2 bl) : qMet E y_On_of b_On_of 4 (some .int) 4 0 0 [.ref (qb E + 0), .int x, .int w] S I J (fun u S' I' J' => (((∃ c l, c ≤ 6 ∧ I 6 1 = nI c ∧ l ≤ 6 ∧ I 6 3 = nI l ∧ u = some (.int (ca_of I c l w0 x w))) ∧ cU I I' J J') ∧ cW S S' I I') ∧ KQ0 S I J (cT I) u S' I' J') := by
  have h0 := h
  have hw4 := h.w4
  obtain ⟨hO, hZ, hN, ⟨e0, e1, e2, eb, s0, s2, s3⟩, hd⟩ := h
  obtain ⟨hok, hI0, hI2, hah, him, hig, hrd, hts, hh⟩ := id hd
  obtain ⟨c, hc6, hc⟩ := hok.1
  obtain ⟨l, hl6, hl⟩ := hok.2.1
  obtain ⟨d, hd9, hdd⟩ := hok.2.2.1
  obtain ⟨z1, y1, x1⟩ := hok.2.2.2.1
  obtain ⟨z2, y2, x2⟩ := hok.2.2.2.2.1
  obtain ⟨z3, y3, x3⟩ := hok.2.2.2.2.2.1
  refine (c_On_ofX hO e0 hI0 hc hc6 hl hl6 hdd hd9).px (fun u S' I' J' hq => ⟨⟨⟨c, l, hc6, hc, hl6, hl, hq.1⟩, cU.qpr e0 hq.2.2.1 hq.2.2.2⟩, cW.qpr hO e0 e2 s3 hq.2.1 hq.2.2.1⟩) (fun v S' I' J' hq => ?_)
  obtain ⟨-, rfl, fr, fj⟩ := hq
  unfold qW1 at e0 e2
  refine ⟨⟨_, _, _, _, h0.new (hd.fr (fun a ha => fr a ?_) e0 e2) (fun a ha => fr a ?_) (fun a ha => fj a (by omega))⟩, id, fun a a1 a2 => ⟨fr a ?_, fj a (by omega)⟩, congrFun (fr 6 ?_) 1, congrFun (fr 0 ?_) 4, congrFun (fr 60 ?_) 1⟩
  · unfold cR at ha; unfold qPr; omega
  all_goals (unfold qPr; omega)
theorem R_ofX {x w : Int32} (hM : isMd S) (h : rDat I) : qMet E y_Md_of b_Md_of 3 (some .int) 4 0 0 [.ref (qb E + 114), .int x, .int w] S I J (fun u S' I' J' => (((∃ c l d, c ≤ 6 ∧ I 114 0 = nI c ∧ l ≤ 6 ∧ I 114 8 = nI l ∧ d ≤ 9999 ∧ I 114 10 = nI d ∧ u = some (.int (ga_of I c l d x w))) ∧ rU I I' J J') ∧ rW I I') ∧ RQ0 S I J (rT I) u S' I' J') := by
  obtain ⟨-, ⟨c, c6, hc⟩, ⟨l, l6, hl⟩, -, d0, hd9, hd0⟩ := h.day
  refine (c_Md_ofX hM h.day hc c6 hl l6 hd0 hd9).px (fun u S' I' J' hq => by obtain ⟨h, -, hs, hj⟩ := hq; exact ⟨⟨⟨c, l, d0, c6, hc, l6, hl, hd9, hd0, h⟩, rU.ask hs (fun b _ => by rw [← hj])⟩, rW.ask hs⟩) (fun v S' I' J' hq => ?_)
  obtain ⟨-, hS, hs, hj⟩ := hq
  exact RQ.ask h hS hs (fun b _ => by rw [← hj])
end V39
/-- both say the same of one -/
theorem x_of {S S1 : qSh} {I I1 : qI} {J J1 : qJ} {T : qI → Prop} {v v2 : Option Value} {w0 : Nat} {x w : Int32} (g : vINV S I J) (hw : qR S 6 5 = some w0) (pK : ∃ c l, c ≤ 6 ∧ I 6 1 = nI c ∧ l ≤ 6 ∧ I 6 3 = nI l ∧ v = some (.int (ca_of I c l w0 x w))) (hK : KQ0 S I J T v S1 I1 J1) (pR : ∃ c l d, c ≤ 6 ∧ I1 114 0 = nI c ∧ l ≤ 6 ∧ I1 114 8 = nI l ∧ d ≤ 9999 ∧ I1 114 10 = nI d ∧ v2 = some (.int (ga_of I1 c l d x w))) : v = v2 := by
  have cf := hK.2.2.1
  obtain ⟨c, l, c6, hc, l6, hl, hv⟩ := pK
  obtain ⟨c', l', d, c6', hc', l6', hl', d9, hd, hv2⟩ := pR
  have c114 := (cf 114 (by omega) (by omega)).1
  rw [c114] at hc' hl' hd
  obtain ⟨a1, a2, a3, a4, a5, a6, a7, a8⟩ := g.1.2.2.2.1
  have ec : c' = c := (nI_eq (by omega) (by omega)).mp (hc'.symm.trans (a1.trans hc))
  subst ec
  have el : l' = l := (nI_eq (by omega) (by omega)).mp (hl'.symm.trans (a2.trans hl))
  subst el
  have hd6 : I 6 4 = nI d := a3.symm.trans hd
  rw [hv, hv2]
  congr 2
  unfold ca_of ga_of
  by_cases q0 : qwithin x 0 (nI c' - 1) = 0
  · rw [if_pos q0, if_pos q0]
  rw [if_neg q0, if_neg q0]
  obtain ⟨p, hp, rfl⟩ := qisM_y (show c' < 2 ^ 31 by omega) q0
  rw [qcl (n := p) (by omega)]
  obtain ⟨b1, b0, b2⟩ := a7 c' p c6 hc hp
  obtain ⟨h3, h4, h5, h6, h7, h8, h9⟩ := g.2.2.1 c' p c6 hc hp
  obtain ⟨g1, g2, g3, g4⟩ := kp_h4 (I := I) (p := p) (by omega)
  have x1 : kp I p = I 115 p := by have := kp_115 (I := I) (k := p) (by omega); rwa [Nat.zero_add] at this
  rw [x1] at b1
  rw [kp_116 (by omega)] at b0
  rw [g1] at h3
  rw [g2] at h4
  rw [g3] at h5
  rw [g4] at h6
  have m : ∀ a, 114 ≤ a → a ≤ 147 → I1 a = I a := fun a h1 h2 => (cf a h1 h2).1
  rw [m 115 (by omega) (by omega), m 116 (by omega) (by omega), m 117 (by omega) (by omega), m 118 (by omega) (by omega), m 119 (by omega) (by omega), m 120 (by omega) (by omega), m 122 (by omega) (by omega), b1, b0, h3, h4, h5, h6]
  have bit : (if I (qm 6 p) 6 = 0 then (0 : Int32) else 1) = I (qm 6 p) 6 := by
    rcases h7 with q | q
    · rw [q, if_pos rfl]
    · rw [q, if_neg (by decide)]
  have pl : qplace (I 8) (nI p) l' l' = qplace (I 122) (nI p) l' l' := (qplace_cg (f := I 122) (g := I 8) (fun i hi => by
    have := a8 l' i l6 hl hi
    rw [kp_122 (by omega)] at this
    exact this) l' (Nat.le_refl _)).symm
  have pn : qpainAt I 6 w0 (qm 6 p) (nI 0) = mpain I1 p (nI d) (I (qm 6 p) 4) := by
    have z1 : ∀ y : Int32, y + nI 0 = y := fun y => Int32.add_zero y
    unfold qpainAt
    rw [z1, z1, hd6]
    have w9 : qmin 99 (I (qm 6 p) 4) = I (qm 6 p) 4 := by
      unfold qmin
      by_cases q : I (qm 6 p) 4 < 99
      · rw [if_pos q]
      · rw [if_neg q]
        exact Int32.le_antisymm (Int32.not_lt.mp q) h9
    rw [w9]
    have hr : ∀ r, r < 4 → I (qm 6 p + 1) r = I1 121 (4 * p + r) := fun r hr' => by
      have := b2 r hr'
      rw [kp_121 (by omega)] at this
      rw [m 121 (by omega) (by omega)]
      exact this.symm
    refine x_pain (dd := d) (g.1.2.2.2.2.2.2.2.1.2.2 p (by omega)) ?_ ?_ ?_ hr ?_ (by omega)
    · rw [m 115 (by omega) (by omega), b1]
    · rw [m 116 (by omega) (by omega), b0]
    · rw [m 117 (by omega) (by omega), h3]
    · rw [c114]
      exact (g.2.1 w0 hw).fr (fun _ _ => rfl) (fun a ha => m a (by omega) (by omega)) (by rw [c114])
  rw [bit, pl, pn]
