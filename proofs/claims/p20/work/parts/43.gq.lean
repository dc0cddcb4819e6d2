/-! more of the reference's calls, told exactly -/
section GQ
variable {E : qE} {S : qSh} {I : qI} {J : qJ}
theorem c_Md_kept {s : Int32} {v : Int64} : qMet E y_Md_kept b_Md_kept 3 (some .long) 0 0 0 [.int s, .long v] S I J (qPl S I J (mkept s v)) := by
  unfold mkept
  refine qMet.of (L := [some (.int s), some (.long v), none]) (by decide +kernel) (Nat.le_of_ble_eq_true rfl) rfl ?_
  refine ldi_n_3_0 (pc := 0) d_Md_kept_0 ?_
  by_cases k0 : s = 0
  · rw [k0]
    refine r_tableIn (pc := 1) (off := 31) (tgt := 32) d_Md_kept_1 (by decide) (by decide) (by decide +kernel) (by decide) ?_
    refine ldl_n_3_1 (pc := 32) d_Md_kept_32 ?_
    refine r_l2i (pc := 33) d_Md_kept_33 ?_
    refine r_i2b (pc := 34) d_Md_kept_34 ?_
    refine r_i2l (pc := 35) d_Md_kept_35 ?_
    exact r_lret d_Md_kept_36 rfl (by omega) (by omega) (⟨rfl, rfl, rfl, rfl⟩)
  rw [if_neg k0]
  by_cases k1 : s = 1
  · rw [k1]
    refine r_tableIn (pc := 1) (off := 36) (tgt := 37) d_Md_kept_1 (by decide) (by decide) (by decide +kernel) (by decide) ?_
    refine ldl_n_3_1 (pc := 37) d_Md_kept_37 ?_
    refine r_l2i (pc := 38) d_Md_kept_38 ?_
    refine r_i2s (pc := 39) d_Md_kept_39 ?_
    refine r_i2l (pc := 40) d_Md_kept_40 ?_
    exact r_lret d_Md_kept_41 rfl (by omega) (by omega) (⟨rfl, rfl, rfl, rfl⟩)
  rw [if_neg k1]
  by_cases k2 : s = 2
  · rw [k2]
    refine r_tableIn (pc := 1) (off := 41) (tgt := 42) d_Md_kept_1 (by decide) (by decide) (by decide +kernel) (by decide) ?_
    refine ldl_n_3_1 (pc := 42) d_Md_kept_42 ?_
    refine r_l2i (pc := 43) d_Md_kept_43 ?_
    refine r_i2l (pc := 44) d_Md_kept_44 ?_
    exact r_lret d_Md_kept_45 rfl (by omega) (by omega) (⟨rfl, rfl, rfl, rfl⟩)
  rw [if_neg k2]
  by_cases k3 : s = 3
  · rw [k3]
    refine r_tableIn (pc := 1) (off := 45) (tgt := 46) d_Md_kept_1 (by decide) (by decide) (by decide +kernel) (by decide) ?_
    refine ldl_n_3_1 (pc := 46) d_Md_kept_46 ?_
    exact r_lret d_Md_kept_47 rfl (by omega) (by omega) (⟨rfl, rfl, rfl, rfl⟩)
  rw [if_neg k3]
  refine r_tableOut (pc := 1) (tgt := 48) d_Md_kept_1 (by simp only [← Int32.toInt_inj, Int32.reduceToInt] at k0 k1 k2 k3; omega) (by decide) ?_
  refine ldl_n_3_1 (pc := 48) d_Md_kept_48 ?_
  refine r_lconst (pc := 49) (v := 0) d_Md_kept_49 rfl ?_
  refine r_lcmp (pc := 50) d_Md_kept_50 ?_
  refine r_if_eq (pc := 51) (tgt := 58) d_Md_kept_51 (by decide) (fun c => ?_) (fun c => ?_)
  · rw [if_pos (lg_cmp_0 c)]
    refine r_lconst (pc := 58) (v := 0) d_Md_kept_58 rfl ?_
    exact r_lret d_Md_kept_59 rfl (by omega) (by omega) (⟨rfl, rfl, rfl, rfl⟩)
  · rw [if_neg (fun e => c (lg_cmp_eq0 e))]
    refine r_lconst (pc := 54) (v := 1) d_Md_kept_54 rfl ?_
    refine r_goto (pc := 55) (tgt := 59) d_Md_kept_55 (by decide) ?_
    exact r_lret d_Md_kept_59 rfl (by omega) (by omega) (⟨rfl, rfl, rfl, rfl⟩)

def ga_Md_mourner (I : qI) (J : qJ)  (kd : Int32) (v : Int32) (g : Int32) : Int32 := (if (qwithin kd 0 6) = 0 then (-1) else (if (qwithin v 0 9) = 0 then (-2) else (if (qwithin g 0 99) = 0 then (-2) else (if (I 114 0) = 6 then (-4) else (I 114 0)))))
def gi_Md_mourner (I : qI) (J : qJ)  (kd : Int32) (v : Int32) (g : Int32) : qI := (if (qwithin kd 0 6) = 0 then I else (if (qwithin v 0 9) = 0 then I else (if (qwithin g 0 99) = 0 then I else (if (I 114 0) = 6 then I else (qup (qup (qup (qup (qup (qup (qup (qup (qup (qup (qup I 115 ((I 114 0)).toNatClampNeg kd) 116 ((I 114 0)).toNatClampNeg v) 117 ((I 114 0)).toNatClampNeg g) 118 ((I 114 0)).toNatClampNeg 0) 119 ((I 114 0)).toNatClampNeg 0) 120 ((I 114 0)).toNatClampNeg 0) 121 (((4 * (I 114 0)) + 0)).toNatClampNeg 0) 121 (((4 * (I 114 0)) + 1)).toNatClampNeg 0) 121 (((4 * (I 114 0)) + 2)).toNatClampNeg 0) 121 (((4 * (I 114 0)) + 3)).toNatClampNeg 0) 114 0 ((I 114 0) + 1))))))
def gj_Md_mourner (I : qI) (J : qJ)  (kd : Int32) (v : Int32) (g : Int32) : qJ := (if (qwithin kd 0 6) = 0 then J else (if (qwithin v 0 9) = 0 then J else (if (qwithin g 0 99) = 0 then J else (if (I 114 0) = 6 then J else J))))
theorem c_Md_mourner {kd v g : Int32} {c : Nat} (hM : isMd S) (hc : I 114 0 = nI c) (hc6 : c ≤ 6) : qMet E y_Md_mourner b_Md_mourner 5 (some .int) 1 0 0 [.ref (qb E + 114), .int kd, .int v, .int g] S I J (fun r S' I' J' => r = some (.int (ga_Md_mourner I J kd v g)) ∧ S = S' ∧ I' = gi_Md_mourner I J kd v g ∧ J' = gj_Md_mourner I J kd v g) := by
  refine qMet.of (L := [some (.ref (qb E + 114)), some (.int kd), some (.int v), some (.int g), none]) (by decide +kernel) (Nat.le_of_ble_eq_true rfl) rfl ?_
  refine ldi_n_5_1 (pc := 0) d_Md_mourner_0 ?_
  refine r_iconst (pc := 1) (v := 0) d_Md_mourner_1 rfl ?_
  refine r_bipush (pc := 2) (v := 6) d_Md_mourner_2 rfl ?_
  refine r_callS (pc := 4) (As := [.int kd, .int 0, .int 6]) k_Md_120 sw_Md_within rfl (by decide) d_Md_mourner_4 (c_Md_within _ _ _) rfl (Nat.le_of_ble_eq_true rfl) (by omega) (by omega) (by omega) (fun v' S' I' J' hq => ?_)
  obtain ⟨rfl, rfl, rfl, rfl⟩ := hq
  refine r_if_ne (pc := 7) (tgt := 12) d_Md_mourner_7 (by decide) (fun c1 => ?_) (fun c1 => ?_)
  · refine ldi_n_5_2 (pc := 12) d_Md_mourner_12 ?_
    refine r_iconst (pc := 13) (v := 0) d_Md_mourner_13 rfl ?_
    refine r_bipush (pc := 14) (v := 9) d_Md_mourner_14 rfl ?_
    refine r_callS (pc := 16) (As := [.int v, .int 0, .int 9]) k_Md_120 sw_Md_within rfl (by decide) d_Md_mourner_16 (c_Md_within _ _ _) rfl (Nat.le_of_ble_eq_true rfl) (by omega) (by omega) (by omega) (fun v' S' I' J' hq => ?_)
    obtain ⟨rfl, rfl, rfl, rfl⟩ := hq
    refine r_if_eq (pc := 19) (tgt := 32) d_Md_mourner_19 (by decide) (fun c2 => ?_) (fun c2 => ?_)
    · refine r_bipush (pc := 32) (v := (-2)) d_Md_mourner_32 rfl ?_
      exact r_iret d_Md_mourner_34 rfl (by omega) (by omega) ⟨(by first | (rw [ga_Md_mourner, if_neg c1, if_pos c2]; done) | (rw [ga_Md_mourner, if_neg c1, if_pos c2]; subst_vars; rfl) | (unfold ga_Md_mourner; subst_vars; rfl)), rfl, (by first | (rw [gi_Md_mourner, if_neg c1, if_pos c2]; done) | (rw [gi_Md_mourner, if_neg c1, if_pos c2]; subst_vars; rfl) | (unfold gi_Md_mourner; subst_vars; rfl)), (by first | (rw [gj_Md_mourner, if_neg c1, if_pos c2]; done) | (rw [gj_Md_mourner, if_neg c1, if_pos c2]; subst_vars; rfl) | (unfold gj_Md_mourner; subst_vars; rfl))⟩
    · refine ldi_n_5_3 (pc := 22) d_Md_mourner_22 ?_
      refine r_iconst (pc := 23) (v := 0) d_Md_mourner_23 rfl ?_
      refine r_bipush (pc := 24) (v := 99) d_Md_mourner_24 rfl ?_
      refine r_callS (pc := 26) (As := [.int g, .int 0, .int 99]) k_Md_120 sw_Md_within rfl (by decide) d_Md_mourner_26 (c_Md_within _ _ _) rfl (Nat.le_of_ble_eq_true rfl) (by omega) (by omega) (by omega) (fun v' S' I' J' hq => ?_)
      obtain ⟨rfl, rfl, rfl, rfl⟩ := hq
      refine r_if_ne (pc := 29) (tgt := 35) d_Md_mourner_29 (by decide) (fun c3 => ?_) (fun c3 => ?_)
      · refine lda_n_5_0 (pc := 35) d_Md_mourner_35 ?_
        refine g_Md_117 (pc := 36) rfl d_Md_mourner_36 (hM.1) ?_
        refine r_bipush (pc := 39) (v := 6) d_Md_mourner_39 rfl ?_
        refine r_icmp_ne (pc := 41) (tgt := 47) d_Md_mourner_41 (by decide) (fun c4 => ?_) (fun c4 => ?_)
        · have hz6 : c < 6 := by
            rcases Nat.lt_or_ge c 6 with q | q
            · exact q
            · exact absurd (by rw [hc, show c = 6 by omega]; rfl) c4
          have hin : vp_in (I 114 0) 6 := by rw [hc]; exact vp_in_nI hz6 (by omega)
          have hin0 : vp_in ((4 * (I 114 0)) + 0) 24 := by rw [hc, show (4 : Int32) = nI 4 from rfl, show (0 : Int32) = nI 0 from rfl, pk_mul, nI_add]; exact vp_in_nI (by omega) (by omega)
          have hin1 : vp_in ((4 * (I 114 0)) + 1) 24 := by rw [hc, show (4 : Int32) = nI 4 from rfl, show (1 : Int32) = nI 1 from rfl, pk_mul, nI_add]; exact vp_in_nI (by omega) (by omega)
          have hin2 : vp_in ((4 * (I 114 0)) + 2) 24 := by rw [hc, show (4 : Int32) = nI 4 from rfl, show (2 : Int32) = nI 2 from rfl, pk_mul, nI_add]; exact vp_in_nI (by omega) (by omega)
          have hin3 : vp_in ((4 * (I 114 0)) + 3) 24 := by rw [hc, show (4 : Int32) = nI 4 from rfl, show (3 : Int32) = nI 3 from rfl, pk_mul, nI_add]; exact vp_in_nI (by omega) (by omega)
          refine lda_n_5_0 (pc := 47) d_Md_mourner_47 ?_
          refine g_Md_9 (pc := 48) rfl d_Md_mourner_48 (hM.1) (hM.r 0 rfl) ?_
          refine lda_n_5_0 (pc := 51) d_Md_mourner_51 ?_
          refine g_Md_117 (pc := 52) rfl d_Md_mourner_52 (hM.1) ?_
          refine ldi_n_5_1 (pc := 55) d_Md_mourner_55 ?_
          refine r_iast (pc := 56) d_Md_mourner_56 (hM.a 0 rfl) (hin) ?_
          refine r_nmI (fun I6 hI5 => ?_)
          refine lda_n_5_0 (pc := 57) d_Md_mourner_57 ?_
          refine g_Md_15 (pc := 58) rfl d_Md_mourner_58 (hM.1) (hM.r 1 rfl) ?_
          refine lda_n_5_0 (pc := 61) d_Md_mourner_61 ?_
          refine g_Md_117 (pc := 62) rfl d_Md_mourner_62 (hM.1) ?_
          refine r_top (v := (I 114 0)) (by rw [hI5, qup_o (by decide)]) ?_
          refine ldi_n_5_2 (pc := 65) d_Md_mourner_65 ?_
          refine r_iast (pc := 66) d_Md_mourner_66 (hM.a 1 rfl) (hin) ?_
          refine r_nmI (fun I8 hI7 => ?_)
          refine lda_n_5_0 (pc := 67) d_Md_mourner_67 ?_
          refine g_Md_18 (pc := 68) rfl d_Md_mourner_68 (hM.1) (hM.r 2 rfl) ?_
          refine lda_n_5_0 (pc := 71) d_Md_mourner_71 ?_
          refine g_Md_117 (pc := 72) rfl d_Md_mourner_72 (hM.1) ?_
          refine r_top (v := (I 114 0)) (by rw [hI7, qup_o (by decide), hI5, qup_o (by decide)]) ?_
          refine ldi_n_5_3 (pc := 75) d_Md_mourner_75 ?_
          refine r_iast (pc := 76) d_Md_mourner_76 (hM.a 2 rfl) (hin) ?_
          refine r_nmI (fun I10 hI9 => ?_)
          refine lda_n_5_0 (pc := 77) d_Md_mourner_77 ?_
          refine g_Md_21 (pc := 78) rfl d_Md_mourner_78 (hM.1) (hM.r 3 rfl) ?_
          refine lda_n_5_0 (pc := 81) d_Md_mourner_81 ?_
          refine g_Md_117 (pc := 82) rfl d_Md_mourner_82 (hM.1) ?_
          refine r_top (v := (I 114 0)) (by rw [hI9, qup_o (by decide), hI7, qup_o (by decide), hI5, qup_o (by decide)]) ?_
          refine r_iconst (pc := 85) (v := 0) d_Md_mourner_85 rfl ?_
          refine r_iast (pc := 86) d_Md_mourner_86 (hM.a 3 rfl) (hin) ?_
          refine r_nmI (fun I12 hI11 => ?_)
          refine lda_n_5_0 (pc := 87) d_Md_mourner_87 ?_
          refine g_Md_24 (pc := 88) rfl d_Md_mourner_88 (hM.1) (hM.r 4 rfl) ?_
          refine lda_n_5_0 (pc := 91) d_Md_mourner_91 ?_
          refine g_Md_117 (pc := 92) rfl d_Md_mourner_92 (hM.1) ?_
          refine r_top (v := (I 114 0)) (by rw [hI11, qup_o (by decide), hI9, qup_o (by decide), hI7, qup_o (by decide), hI5, qup_o (by decide)]) ?_
          refine r_iconst (pc := 95) (v := 0) d_Md_mourner_95 rfl ?_
          refine r_iast (pc := 96) d_Md_mourner_96 (hM.a 4 rfl) (hin) ?_
          refine r_nmI (fun I14 hI13 => ?_)
          refine lda_n_5_0 (pc := 97) d_Md_mourner_97 ?_
          refine g_Md_27 (pc := 98) rfl d_Md_mourner_98 (hM.1) (hM.r 5 rfl) ?_
          refine lda_n_5_0 (pc := 101) d_Md_mourner_101 ?_
          refine g_Md_117 (pc := 102) rfl d_Md_mourner_102 (hM.1) ?_
          refine r_top (v := (I 114 0)) (by rw [hI13, qup_o (by decide), hI11, qup_o (by decide), hI9, qup_o (by decide), hI7, qup_o (by decide), hI5, qup_o (by decide)]) ?_
          refine r_iconst (pc := 105) (v := 0) d_Md_mourner_105 rfl ?_
          refine r_iast (pc := 106) d_Md_mourner_106 (hM.a 5 rfl) (hin) ?_
          refine r_nmI (fun I16 hI15 => ?_)
          refine r_iconst (pc := 107) (v := 0) d_Md_mourner_107 rfl ?_
          refine sti_5_4 (pc := 108) d_Md_mourner_108 rfl ?_
          refine ldi_5_4 (pc := 110) d_Md_mourner_110 ?_
          refine r_iconst (pc := 112) (v := 4) d_Md_mourner_112 rfl ?_
          refine r_icmp_ge (pc := 113) (tgt := 137) d_Md_mourner_113 (by decide) (fun c => absurd c (by decide)) (fun _ => ?_)
          refine lda_n_5_0 (pc := 116) d_Md_mourner_116 ?_
          refine g_Md_30 (pc := 117) rfl d_Md_mourner_117 (hM.1) (hM.r 6 rfl) ?_
          refine r_iconst (pc := 120) (v := 4) d_Md_mourner_120 rfl ?_
          refine lda_n_5_0 (pc := 121) d_Md_mourner_121 ?_
          refine g_Md_117 (pc := 122) rfl d_Md_mourner_122 (hM.1) ?_
          refine r_top (v := (I 114 0)) (by rw [hI15, qup_o (by decide), hI13, qup_o (by decide), hI11, qup_o (by decide), hI9, qup_o (by decide), hI7, qup_o (by decide), hI5, qup_o (by decide)]) ?_
          refine r_imul (pc := 125) d_Md_mourner_125 ?_
          refine ldi_5_4 (pc := 126) d_Md_mourner_126 ?_
          refine r_iadd (pc := 128) d_Md_mourner_128 ?_
          refine r_iconst (pc := 129) (v := 0) d_Md_mourner_129 rfl ?_
          refine r_iast (pc := 130) d_Md_mourner_130 (hM.a 6 rfl) (hin0) ?_
          refine r_nmI (fun I18 hI17 => ?_)
          refine inc_5_4 (pc := 131) (w := 1) d_Md_mourner_131 rfl rfl ?_
          rw [show (0 : Int32) + 1 = 1 from by decide]
          refine r_goto (pc := 134) (tgt := 110) d_Md_mourner_134 (by decide) ?_
          refine ldi_5_4 (pc := 110) d_Md_mourner_110 ?_
          refine r_iconst (pc := 112) (v := 4) d_Md_mourner_112 rfl ?_
          refine r_icmp_ge (pc := 113) (tgt := 137) d_Md_mourner_113 (by decide) (fun c => absurd c (by decide)) (fun _ => ?_)
          refine lda_n_5_0 (pc := 116) d_Md_mourner_116 ?_
          refine g_Md_30 (pc := 117) rfl d_Md_mourner_117 (hM.1) (hM.r 6 rfl) ?_
          refine r_iconst (pc := 120) (v := 4) d_Md_mourner_120 rfl ?_
          refine lda_n_5_0 (pc := 121) d_Md_mourner_121 ?_
          refine g_Md_117 (pc := 122) rfl d_Md_mourner_122 (hM.1) ?_
          refine r_top (v := (I 114 0)) (by rw [hI17, qup_o (by decide), hI15, qup_o (by decide), hI13, qup_o (by decide), hI11, qup_o (by decide), hI9, qup_o (by decide), hI7, qup_o (by decide), hI5, qup_o (by decide)]) ?_
          refine r_imul (pc := 125) d_Md_mourner_125 ?_
          refine ldi_5_4 (pc := 126) d_Md_mourner_126 ?_
          refine r_iadd (pc := 128) d_Md_mourner_128 ?_
          refine r_iconst (pc := 129) (v := 0) d_Md_mourner_129 rfl ?_
          refine r_iast (pc := 130) d_Md_mourner_130 (hM.a 6 rfl) (hin1) ?_
          refine r_nmI (fun I20 hI19 => ?_)
          refine inc_5_4 (pc := 131) (w := 1) d_Md_mourner_131 rfl rfl ?_
          rw [show (1 : Int32) + 1 = 2 from by decide]
          refine r_goto (pc := 134) (tgt := 110) d_Md_mourner_134 (by decide) ?_
          refine ldi_5_4 (pc := 110) d_Md_mourner_110 ?_
          refine r_iconst (pc := 112) (v := 4) d_Md_mourner_112 rfl ?_
          refine r_icmp_ge (pc := 113) (tgt := 137) d_Md_mourner_113 (by decide) (fun c => absurd c (by decide)) (fun _ => ?_)
          refine lda_n_5_0 (pc := 116) d_Md_mourner_116 ?_
          refine g_Md_30 (pc := 117) rfl d_Md_mourner_117 (hM.1) (hM.r 6 rfl) ?_
          refine r_iconst (pc := 120) (v := 4) d_Md_mourner_120 rfl ?_
          refine lda_n_5_0 (pc := 121) d_Md_mourner_121 ?_
          refine g_Md_117 (pc := 122) rfl d_Md_mourner_122 (hM.1) ?_
          refine r_top (v := (I 114 0)) (by rw [hI19, qup_o (by decide), hI17, qup_o (by decide), hI15, qup_o (by decide), hI13, qup_o (by decide), hI11, qup_o (by decide), hI9, qup_o (by decide), hI7, qup_o (by decide), hI5, qup_o (by decide)]) ?_
          refine r_imul (pc := 125) d_Md_mourner_125 ?_
          refine ldi_5_4 (pc := 126) d_Md_mourner_126 ?_
          refine r_iadd (pc := 128) d_Md_mourner_128 ?_
          refine r_iconst (pc := 129) (v := 0) d_Md_mourner_129 rfl ?_
          refine r_iast (pc := 130) d_Md_mourner_130 (hM.a 6 rfl) (hin2) ?_
          refine r_nmI (fun I22 hI21 => ?_)
          refine inc_5_4 (pc := 131) (w := 1) d_Md_mourner_131 rfl rfl ?_
          rw [show (2 : Int32) + 1 = 3 from by decide]
          refine r_goto (pc := 134) (tgt := 110) d_Md_mourner_134 (by decide) ?_
          refine ldi_5_4 (pc := 110) d_Md_mourner_110 ?_
          refine r_iconst (pc := 112) (v := 4) d_Md_mourner_112 rfl ?_
          refine r_icmp_ge (pc := 113) (tgt := 137) d_Md_mourner_113 (by decide) (fun c => absurd c (by decide)) (fun _ => ?_)
          refine lda_n_5_0 (pc := 116) d_Md_mourner_116 ?_
          refine g_Md_30 (pc := 117) rfl d_Md_mourner_117 (hM.1) (hM.r 6 rfl) ?_
          refine r_iconst (pc := 120) (v := 4) d_Md_mourner_120 rfl ?_
          refine lda_n_5_0 (pc := 121) d_Md_mourner_121 ?_
          refine g_Md_117 (pc := 122) rfl d_Md_mourner_122 (hM.1) ?_
          refine r_top (v := (I 114 0)) (by rw [hI21, qup_o (by decide), hI19, qup_o (by decide), hI17, qup_o (by decide), hI15, qup_o (by decide), hI13, qup_o (by decide), hI11, qup_o (by decide), hI9, qup_o (by decide), hI7, qup_o (by decide), hI5, qup_o (by decide)]) ?_
          refine r_imul (pc := 125) d_Md_mourner_125 ?_
          refine ldi_5_4 (pc := 126) d_Md_mourner_126 ?_
          refine r_iadd (pc := 128) d_Md_mourner_128 ?_
          refine r_iconst (pc := 129) (v := 0) d_Md_mourner_129 rfl ?_
          refine r_iast (pc := 130) d_Md_mourner_130 (hM.a 6 rfl) (hin3) ?_
          refine r_nmI (fun I24 hI23 => ?_)
          refine inc_5_4 (pc := 131) (w := 1) d_Md_mourner_131 rfl rfl ?_
          rw [show (3 : Int32) + 1 = 4 from by decide]
          refine r_goto (pc := 134) (tgt := 110) d_Md_mourner_134 (by decide) ?_
          refine ldi_5_4 (pc := 110) d_Md_mourner_110 ?_
          refine r_iconst (pc := 112) (v := 4) d_Md_mourner_112 rfl ?_
          refine r_icmp_ge (pc := 113) (tgt := 137) d_Md_mourner_113 (by decide) (fun _ => ?_) (fun c => absurd (by decide) c)
          refine lda_n_5_0 (pc := 137) d_Md_mourner_137 ?_
          refine r_dup (pc := 138) d_Md_mourner_138 rfl ?_
          refine g_Md_117 (pc := 139) rfl d_Md_mourner_139 (hM.1) ?_
          refine r_top (v := (I 114 0)) (by rw [hI23, qup_o (by decide), hI21, qup_o (by decide), hI19, qup_o (by decide), hI17, qup_o (by decide), hI15, qup_o (by decide), hI13, qup_o (by decide), hI11, qup_o (by decide), hI9, qup_o (by decide), hI7, qup_o (by decide), hI5, qup_o (by decide)]) ?_
          refine r_dup_x1 (pc := 142) d_Md_mourner_142 rfl rfl ?_
          refine r_iconst (pc := 143) (v := 1) d_Md_mourner_143 rfl ?_
          refine r_iadd (pc := 144) d_Md_mourner_144 ?_
          refine p_Md_117 (pc := 145) rfl d_Md_mourner_145 (hM.1) ?_
          refine r_nmI (fun I26 hI25 => ?_)
          exact r_iret d_Md_mourner_148 rfl (by omega) (by omega) ⟨(by first | (rw [ga_Md_mourner, if_neg c1, if_neg c2, if_neg c3, if_neg c4]; done) | (rw [ga_Md_mourner, if_neg c1, if_neg c2, if_neg c3, if_neg c4]; subst_vars; rfl) | (unfold ga_Md_mourner; subst_vars; rfl)), rfl, (by first | (rw [gi_Md_mourner, if_neg c1, if_neg c2, if_neg c3, if_neg c4]; done) | (rw [gi_Md_mourner, if_neg c1, if_neg c2, if_neg c3, if_neg c4]; subst_vars; rfl) | (unfold gi_Md_mourner; subst_vars; rfl)), (by first | (rw [gj_Md_mourner, if_neg c1, if_neg c2, if_neg c3, if_neg c4]; done) | (rw [gj_Md_mourner, if_neg c1, if_neg c2, if_neg c3, if_neg c4]; subst_vars; rfl) | (unfold gj_Md_mourner; subst_vars; rfl))⟩
        · refine r_bipush (pc := 44) (v := (-4)) d_Md_mourner_44 rfl ?_
          exact r_iret d_Md_mourner_46 rfl (by omega) (by omega) ⟨(by first | (rw [ga_Md_mourner, if_neg c1, if_neg c2, if_neg c3, if_pos c4]; done) | (rw [ga_Md_mourner, if_neg c1, if_neg c2, if_neg c3, if_pos c4]; subst_vars; rfl) | (unfold ga_Md_mourner; subst_vars; rfl)), rfl, (by first | (rw [gi_Md_mourner, if_neg c1, if_neg c2, if_neg c3, if_pos c4]; done) | (rw [gi_Md_mourner, if_neg c1, if_neg c2, if_neg c3, if_pos c4]; subst_vars; rfl) | (unfold gi_Md_mourner; subst_vars; rfl)), (by first | (rw [gj_Md_mourner, if_neg c1, if_neg c2, if_neg c3, if_pos c4]; done) | (rw [gj_Md_mourner, if_neg c1, if_neg c2, if_neg c3, if_pos c4]; subst_vars; rfl) | (unfold gj_Md_mourner; subst_vars; rfl))⟩
      · refine r_bipush (pc := 32) (v := (-2)) d_Md_mourner_32 rfl ?_
        exact r_iret d_Md_mourner_34 rfl (by omega) (by omega) ⟨(by first | (rw [ga_Md_mourner, if_neg c1, if_neg c2, if_pos c3]; done) | (rw [ga_Md_mourner, if_neg c1, if_neg c2, if_pos c3]; subst_vars; rfl) | (unfold ga_Md_mourner; subst_vars; rfl)), rfl, (by first | (rw [gi_Md_mourner, if_neg c1, if_neg c2, if_pos c3]; done) | (rw [gi_Md_mourner, if_neg c1, if_neg c2, if_pos c3]; subst_vars; rfl) | (unfold gi_Md_mourner; subst_vars; rfl)), (by first | (rw [gj_Md_mourner, if_neg c1, if_neg c2, if_pos c3]; done) | (rw [gj_Md_mourner, if_neg c1, if_neg c2, if_pos c3]; subst_vars; rfl) | (unfold gj_Md_mourner; subst_vars; rfl))⟩
  · refine r_iconst (pc := 10) (v := (-1)) d_Md_mourner_10 rfl ?_
    exact r_iret d_Md_mourner_11 rfl (by omega) (by omega) ⟨(by first | (rw [ga_Md_mourner, if_pos c1]; done) | (rw [ga_Md_mourner, if_pos c1]; subst_vars; rfl) | (unfold ga_Md_mourner; subst_vars; rfl)), rfl, (by first | (rw [gi_Md_mourner, if_pos c1]; done) | (rw [gi_Md_mourner, if_pos c1]; subst_vars; rfl) | (unfold gi_Md_mourner; subst_vars; rfl)), (by first | (rw [gj_Md_mourner, if_pos c1]; done) | (rw [gj_Md_mourner, if_pos c1]; subst_vars; rfl) | (unfold gj_Md_mourner; subst_vars; rfl))⟩
def ga_Md_item (I : qI) (J : qJ)  (tp : Int32) (i : Int32) (z0 : Int64) : Int32 := (if (qwithin tp 0 5) = 0 then (-1) else (if 0 ≤ (I 145 (tp).toNatClampNeg) then (if (qwithin i 0 ((I 146 (tp).toNatClampNeg) - 1)) = 0 then (-13) else 1) else (-11)))
def gi_Md_item (I : qI) (J : qJ)  (tp : Int32) (i : Int32) (z0 : Int64) : qI := (if (qwithin tp 0 5) = 0 then I else (if 0 ≤ (I 145 (tp).toNatClampNeg) then (if (qwithin i 0 ((I 146 (tp).toNatClampNeg) - 1)) = 0 then I else I) else I))
def gj_Md_item (I : qI) (J : qJ)  (tp : Int32) (i : Int32) (z0 : Int64) : qJ := (if (qwithin tp 0 5) = 0 then J else (if 0 ≤ (I 145 (tp).toNatClampNeg) then (if (qwithin i 0 ((I 146 (tp).toNatClampNeg) - 1)) = 0 then J else (qup J 147 (((60 * tp) + i)).toNatClampNeg (mkept (I 145 (tp).toNatClampNeg) z0))) else J))
theorem c_Md_item {tp i : Int32} {z0 : Int64} (hM : isMd S) (hTs : ∀ t, t < 6 → ∃ z, z ≤ 60 ∧ I 146 t = nI z) : qMet E y_Md_item b_Md_item 5 (some .int) 2 0 0 [.ref (qb E + 114), .int tp, .int i, .long z0] S I J (fun r S' I' J' => r = some (.int (ga_Md_item I J tp i z0)) ∧ S = S' ∧ I' = gi_Md_item I J tp i z0 ∧ J' = gj_Md_item I J tp i z0) := by
  refine qMet.of (L := [some (.ref (qb E + 114)), some (.int tp), some (.int i), some (.long z0), none]) (by decide +kernel) (Nat.le_of_ble_eq_true rfl) rfl ?_
  refine ldi_n_5_1 (pc := 0) d_Md_item_0 ?_
  refine r_callS (pc := 1) (As := [.int tp]) k_Md_361 sw_Md_isTape rfl (by decide) d_Md_item_1 (c_Md_isTape _) rfl (Nat.le_of_ble_eq_true rfl) (by omega) (by omega) (by omega) (fun v' S' I' J' hq => ?_)
  obtain ⟨rfl, rfl, rfl, rfl⟩ := hq
  refine r_if_ne (pc := 4) (tgt := 9) d_Md_item_4 (by decide) (fun c1 => ?_) (fun c1 => ?_)
  · obtain ⟨t, ht, et⟩ := qtape_y c1
    refine lda_n_5_0 (pc := 9) d_Md_item_9 ?_
    refine g_Md_103 (pc := 10) rfl d_Md_item_10 (hM.1) (hM.r 30 rfl) ?_
    refine ldi_n_5_1 (pc := 13) d_Md_item_13 ?_
    refine r_iald (pc := 14) d_Md_item_14 (hM.a 30 rfl) (by rw [et]; exact vp_in_nI ht (by omega)) ?_
    refine r_if_ge (pc := 15) (tgt := 21) d_Md_item_15 (by decide) (fun c2 => ?_) (fun c2 => ?_)
    · refine ldi_n_5_2 (pc := 21) d_Md_item_21 ?_
      refine r_iconst (pc := 22) (v := 0) d_Md_item_22 rfl ?_
      refine lda_n_5_0 (pc := 23) d_Md_item_23 ?_
      refine g_Md_106 (pc := 24) rfl d_Md_item_24 (hM.1) (hM.r 31 rfl) ?_
      refine ldi_n_5_1 (pc := 27) d_Md_item_27 ?_
      refine r_iald (pc := 28) d_Md_item_28 (hM.a 31 rfl) (by rw [et]; exact vp_in_nI ht (by omega)) ?_
      refine r_iconst (pc := 29) (v := 1) d_Md_item_29 rfl ?_
      refine r_isub (pc := 30) d_Md_item_30 ?_
      refine r_callS (pc := 31) (As := [.int i, .int 0, .int ((I 146 (tp).toNatClampNeg) - 1)]) k_Md_120 sw_Md_within rfl (by decide) d_Md_item_31 (c_Md_within _ _ _) rfl (Nat.le_of_ble_eq_true rfl) (by omega) (by omega) (by omega) (fun v' S' I' J' hq => ?_)
      obtain ⟨rfl, rfl, rfl, rfl⟩ := hq
      refine r_if_ne (pc := 34) (tgt := 40) d_Md_item_34 (by decide) (fun c3 => ?_) (fun c3 => ?_)
      · obtain ⟨z, hz, ez⟩ := hTs t ht
        have e6 : I 146 (tp).toNatClampNeg = nI z := by rw [et, qcl (n := t) (by omega)]; exact ez
        have hin : vp_in ((60 * tp) + i) 360 := by
          obtain ⟨y, hy, ey⟩ := qisM_y (c := z) (x := i) (by omega) (by rw [← e6]; exact c3)
          rw [et, ey, show (60 : Int32) = nI 60 from rfl, pk_mul, nI_add]; exact vp_in_nI (by omega) (by omega)
        refine lda_n_5_0 (pc := 40) d_Md_item_40 ?_
        refine g_Md_109 (pc := 41) rfl d_Md_item_41 (hM.1) (hM.r 32 rfl) ?_
        refine r_bipush (pc := 44) (v := 60) d_Md_item_44 rfl ?_
        refine ldi_n_5_1 (pc := 46) d_Md_item_46 ?_
        refine r_imul (pc := 47) d_Md_item_47 ?_
        refine ldi_n_5_2 (pc := 48) d_Md_item_48 ?_
        refine r_iadd (pc := 49) d_Md_item_49 ?_
        refine lda_n_5_0 (pc := 50) d_Md_item_50 ?_
        refine g_Md_103 (pc := 51) rfl d_Md_item_51 (hM.1) (hM.r 30 rfl) ?_
        refine ldi_n_5_1 (pc := 54) d_Md_item_54 ?_
        refine r_iald (pc := 55) d_Md_item_55 (hM.a 30 rfl) (by rw [et]; exact vp_in_nI ht (by omega)) ?_
        refine ldl_n_5_3 (pc := 56) d_Md_item_56 ?_
        refine r_callS (pc := 57) (As := [.int (I 145 (tp).toNatClampNeg), .long z0]) k_Md_364 sw_Md_kept rfl (by decide) d_Md_item_57 (c_Md_kept) rfl (Nat.le_of_ble_eq_true rfl) (by omega) (by omega) (by omega) (fun v' S' I' J' hq => ?_)
        obtain ⟨rfl, rfl, rfl, rfl⟩ := hq
        refine r_last (pc := 60) d_Md_item_60 (hM.a 32 rfl) (hin) ?_
        refine r_nmJ (fun J5 hJ4 => ?_)
        refine r_iconst (pc := 61) (v := 1) d_Md_item_61 rfl ?_
        exact r_iret d_Md_item_62 rfl (by omega) (by omega) ⟨(by first | (rw [ga_Md_item, if_neg c1, if_pos c2, if_neg c3]; done) | (rw [ga_Md_item, if_neg c1, if_pos c2, if_neg c3]; subst_vars; rfl) | (unfold ga_Md_item; subst_vars; rfl)), rfl, (by first | (rw [gi_Md_item, if_neg c1, if_pos c2, if_neg c3]; done) | (rw [gi_Md_item, if_neg c1, if_pos c2, if_neg c3]; subst_vars; rfl) | (unfold gi_Md_item; subst_vars; rfl)), (by first | (rw [gj_Md_item, if_neg c1, if_pos c2, if_neg c3]; done) | (rw [gj_Md_item, if_neg c1, if_pos c2, if_neg c3]; subst_vars; rfl) | (unfold gj_Md_item; subst_vars; rfl))⟩
      · refine r_bipush (pc := 37) (v := (-13)) d_Md_item_37 rfl ?_
        exact r_iret d_Md_item_39 rfl (by omega) (by omega) ⟨(by first | (rw [ga_Md_item, if_neg c1, if_pos c2, if_pos c3]; done) | (rw [ga_Md_item, if_neg c1, if_pos c2, if_pos c3]; subst_vars; rfl) | (unfold ga_Md_item; subst_vars; rfl)), rfl, (by first | (rw [gi_Md_item, if_neg c1, if_pos c2, if_pos c3]; done) | (rw [gi_Md_item, if_neg c1, if_pos c2, if_pos c3]; subst_vars; rfl) | (unfold gi_Md_item; subst_vars; rfl)), (by first | (rw [gj_Md_item, if_neg c1, if_pos c2, if_pos c3]; done) | (rw [gj_Md_item, if_neg c1, if_pos c2, if_pos c3]; subst_vars; rfl) | (unfold gj_Md_item; subst_vars; rfl))⟩
    · refine r_bipush (pc := 18) (v := (-11)) d_Md_item_18 rfl ?_
      exact r_iret d_Md_item_20 rfl (by omega) (by omega) ⟨(by first | (rw [ga_Md_item, if_neg c1, if_neg c2]; done) | (rw [ga_Md_item, if_neg c1, if_neg c2]; subst_vars; rfl) | (unfold ga_Md_item; subst_vars; rfl)), rfl, (by first | (rw [gi_Md_item, if_neg c1, if_neg c2]; done) | (rw [gi_Md_item, if_neg c1, if_neg c2]; subst_vars; rfl) | (unfold gi_Md_item; subst_vars; rfl)), (by first | (rw [gj_Md_item, if_neg c1, if_neg c2]; done) | (rw [gj_Md_item, if_neg c1, if_neg c2]; subst_vars; rfl) | (unfold gj_Md_item; subst_vars; rfl))⟩
  · refine r_iconst (pc := 7) (v := (-1)) d_Md_item_7 rfl ?_
    exact r_iret d_Md_item_8 rfl (by omega) (by omega) ⟨(by first | (rw [ga_Md_item, if_pos c1]; done) | (rw [ga_Md_item, if_pos c1]; subst_vars; rfl) | (unfold ga_Md_item; subst_vars; rfl)), rfl, (by first | (rw [gi_Md_item, if_pos c1]; done) | (rw [gi_Md_item, if_pos c1]; subst_vars; rfl) | (unfold gi_Md_item; subst_vars; rfl)), (by first | (rw [gj_Md_item, if_pos c1]; done) | (rw [gj_Md_item, if_pos c1]; subst_vars; rfl) | (unfold gj_Md_item; subst_vars; rfl))⟩
def ga_Md_read (I : qI) (J : qJ)  (tp : Int32) (i : Int32) : Int64 := (if (qwithin tp 0 5) = 0 then (-9223372036854775808) else (if (I 145 (tp).toNatClampNeg) < 0 then (-9223372036854775808) else (if (qwithin i 0 ((I 146 (tp).toNatClampNeg) - 1)) = 0 then (-9223372036854775808) else (J 147 (((60 * tp) + i)).toNatClampNeg))))
def gi_Md_read (I : qI) (J : qJ)  (tp : Int32) (i : Int32) : qI := (if (qwithin tp 0 5) = 0 then I else (if (I 145 (tp).toNatClampNeg) < 0 then I else (if (qwithin i 0 ((I 146 (tp).toNatClampNeg) - 1)) = 0 then I else I)))
def gj_Md_read (I : qI) (J : qJ)  (tp : Int32) (i : Int32) : qJ := (if (qwithin tp 0 5) = 0 then J else (if (I 145 (tp).toNatClampNeg) < 0 then J else (if (qwithin i 0 ((I 146 (tp).toNatClampNeg) - 1)) = 0 then J else J)))
theorem c_Md_read {tp i : Int32} (hM : isMd S) (hTs : ∀ t, t < 6 → ∃ z, z ≤ 60 ∧ I 146 t = nI z) : qMet E y_Md_read b_Md_read 3 (some .long) 2 0 0 [.ref (qb E + 114), .int tp, .int i] S I J (fun r S' I' J' => r = some (.long (ga_Md_read I J tp i)) ∧ S = S' ∧ I' = gi_Md_read I J tp i ∧ J' = gj_Md_read I J tp i) := by
  refine qMet.of (L := [some (.ref (qb E + 114)), some (.int tp), some (.int i)]) (by decide +kernel) (Nat.le_of_ble_eq_true rfl) rfl ?_
  refine ldi_n_3_1 (pc := 0) d_Md_read_0 ?_
  refine r_callS (pc := 1) (As := [.int tp]) k_Md_361 sw_Md_isTape rfl (by decide) d_Md_read_1 (c_Md_isTape _) rfl (Nat.le_of_ble_eq_true rfl) (by omega) (by omega) (by omega) (fun v' S' I' J' hq => ?_)
  obtain ⟨rfl, rfl, rfl, rfl⟩ := hq
  refine r_if_eq (pc := 4) (tgt := 46) d_Md_read_4 (by decide) (fun c1 => ?_) (fun c1 => ?_)
  · refine r_ldc2 (pc := 46) cl_Md_327 d_Md_read_46 ?_
    exact r_lret d_Md_read_49 rfl (by omega) (by omega) ⟨(by first | (rw [ga_Md_read, if_pos c1]; done) | (rw [ga_Md_read, if_pos c1]; subst_vars; rfl) | (unfold ga_Md_read; subst_vars; rfl)), rfl, (by first | (rw [gi_Md_read, if_pos c1]; done) | (rw [gi_Md_read, if_pos c1]; subst_vars; rfl) | (unfold gi_Md_read; subst_vars; rfl)), (by first | (rw [gj_Md_read, if_pos c1]; done) | (rw [gj_Md_read, if_pos c1]; subst_vars; rfl) | (unfold gj_Md_read; subst_vars; rfl))⟩
  · obtain ⟨t, ht, et⟩ := qtape_y c1
    refine lda_n_3_0 (pc := 7) d_Md_read_7 ?_
    refine g_Md_103 (pc := 8) rfl d_Md_read_8 (hM.1) (hM.r 30 rfl) ?_
    refine ldi_n_3_1 (pc := 11) d_Md_read_11 ?_
    refine r_iald (pc := 12) d_Md_read_12 (hM.a 30 rfl) (by rw [et]; exact vp_in_nI ht (by omega)) ?_
    refine r_if_lt (pc := 13) (tgt := 46) d_Md_read_13 (by decide) (fun c2 => ?_) (fun c2 => ?_)
    · refine r_ldc2 (pc := 46) cl_Md_327 d_Md_read_46 ?_
      exact r_lret d_Md_read_49 rfl (by omega) (by omega) ⟨(by first | (rw [ga_Md_read, if_neg c1, if_pos c2]; done) | (rw [ga_Md_read, if_neg c1, if_pos c2]; subst_vars; rfl) | (unfold ga_Md_read; subst_vars; rfl)), rfl, (by first | (rw [gi_Md_read, if_neg c1, if_pos c2]; done) | (rw [gi_Md_read, if_neg c1, if_pos c2]; subst_vars; rfl) | (unfold gi_Md_read; subst_vars; rfl)), (by first | (rw [gj_Md_read, if_neg c1, if_pos c2]; done) | (rw [gj_Md_read, if_neg c1, if_pos c2]; subst_vars; rfl) | (unfold gj_Md_read; subst_vars; rfl))⟩
    · refine ldi_n_3_2 (pc := 16) d_Md_read_16 ?_
      refine r_iconst (pc := 17) (v := 0) d_Md_read_17 rfl ?_
      refine lda_n_3_0 (pc := 18) d_Md_read_18 ?_
      refine g_Md_106 (pc := 19) rfl d_Md_read_19 (hM.1) (hM.r 31 rfl) ?_
      refine ldi_n_3_1 (pc := 22) d_Md_read_22 ?_
      refine r_iald (pc := 23) d_Md_read_23 (hM.a 31 rfl) (by rw [et]; exact vp_in_nI ht (by omega)) ?_
      refine r_iconst (pc := 24) (v := 1) d_Md_read_24 rfl ?_
      refine r_isub (pc := 25) d_Md_read_25 ?_
      refine r_callS (pc := 26) (As := [.int i, .int 0, .int ((I 146 (tp).toNatClampNeg) - 1)]) k_Md_120 sw_Md_within rfl (by decide) d_Md_read_26 (c_Md_within _ _ _) rfl (Nat.le_of_ble_eq_true rfl) (by omega) (by omega) (by omega) (fun v' S' I' J' hq => ?_)
      obtain ⟨rfl, rfl, rfl, rfl⟩ := hq
      refine r_if_eq (pc := 29) (tgt := 46) d_Md_read_29 (by decide) (fun c3 => ?_) (fun c3 => ?_)
      · refine r_ldc2 (pc := 46) cl_Md_327 d_Md_read_46 ?_
        exact r_lret d_Md_read_49 rfl (by omega) (by omega) ⟨(by first | (rw [ga_Md_read, if_neg c1, if_neg c2, if_pos c3]; done) | (rw [ga_Md_read, if_neg c1, if_neg c2, if_pos c3]; subst_vars; rfl) | (unfold ga_Md_read; subst_vars; rfl)), rfl, (by first | (rw [gi_Md_read, if_neg c1, if_neg c2, if_pos c3]; done) | (rw [gi_Md_read, if_neg c1, if_neg c2, if_pos c3]; subst_vars; rfl) | (unfold gi_Md_read; subst_vars; rfl)), (by first | (rw [gj_Md_read, if_neg c1, if_neg c2, if_pos c3]; done) | (rw [gj_Md_read, if_neg c1, if_neg c2, if_pos c3]; subst_vars; rfl) | (unfold gj_Md_read; subst_vars; rfl))⟩
      · obtain ⟨z, hz, ez⟩ := hTs t ht
        have e6 : I 146 (tp).toNatClampNeg = nI z := by rw [et, qcl (n := t) (by omega)]; exact ez
        have hin : vp_in ((60 * tp) + i) 360 := by
          obtain ⟨y, hy, ey⟩ := qisM_y (c := z) (x := i) (by omega) (by rw [← e6]; exact c3)
          rw [et, ey, show (60 : Int32) = nI 60 from rfl, pk_mul, nI_add]; exact vp_in_nI (by omega) (by omega)
        refine lda_n_3_0 (pc := 32) d_Md_read_32 ?_
        refine g_Md_109 (pc := 33) rfl d_Md_read_33 (hM.1) (hM.r 32 rfl) ?_
        refine r_bipush (pc := 36) (v := 60) d_Md_read_36 rfl ?_
        refine ldi_n_3_1 (pc := 38) d_Md_read_38 ?_
        refine r_imul (pc := 39) d_Md_read_39 ?_
        refine ldi_n_3_2 (pc := 40) d_Md_read_40 ?_
        refine r_iadd (pc := 41) d_Md_read_41 ?_
        refine r_lald (pc := 42) d_Md_read_42 (hM.a 32 rfl) (hin) ?_
        refine r_goto (pc := 43) (tgt := 49) d_Md_read_43 (by decide) ?_
        exact r_lret d_Md_read_49 rfl (by omega) (by omega) ⟨(by first | (rw [ga_Md_read, if_neg c1, if_neg c2, if_neg c3]; done) | (rw [ga_Md_read, if_neg c1, if_neg c2, if_neg c3]; subst_vars; rfl) | (unfold ga_Md_read; subst_vars; rfl)), rfl, (by first | (rw [gi_Md_read, if_neg c1, if_neg c2, if_neg c3]; done) | (rw [gi_Md_read, if_neg c1, if_neg c2, if_neg c3]; subst_vars; rfl) | (unfold gi_Md_read; subst_vars; rfl)), (by first | (rw [gj_Md_read, if_neg c1, if_neg c2, if_neg c3]; done) | (rw [gj_Md_read, if_neg c1, if_neg c2, if_neg c3]; subst_vars; rfl) | (unfold gj_Md_read; subst_vars; rfl))⟩
end GQ
