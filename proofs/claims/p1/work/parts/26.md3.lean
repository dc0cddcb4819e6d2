/-! the reference's calls on a fresh object, one by one: the answer alone -/
theorem qk_nn {k : Int32} (h : ¬ qwithin k (-1) 5 = 0) (h2 : ¬ k = -1) : 0 ≤ k := by
  obtain ⟨h1, -⟩ := qwithin_y h
  rw [Int32.le_iff_toInt_le] at h1 ⊢
  rw [← Int32.toInt_inj] at h2
  have e1 : (0 : Int32).toInt = 0 := rfl
  have e2 : (-1 : Int32).toInt = -1 := rfl
  rw [e1]
  rw [e2] at h1 h2
  omega
section MD3
variable {E : qE} {S : qSh} {I : qI} {J : qJ}
def a_Md_mourner (kd : Int32) (v : Int32) (g : Int32) : Int32 := (if (qwithin kd 0 6) = 0 then (-1) else (if (qwithin v 0 9) = 0 then (-2) else (if (qwithin g 0 99) = 0 then (-2) else 0)))
theorem k_Md_mourner {kd v g : Int32} (hM : isMd S) (hF : ∀ j, j ≠ 18 → I 114 j = 0) (hh : I 114 18 = -1) : qMet E y_Md_mourner b_Md_mourner 5 (some .int) 1 0 0 [.ref (qb E + 114), .int kd, .int v, .int g] S I J (fun r S' I' J' => r = some (.int (a_Md_mourner kd v g))) := by
  refine qMet.of (L := [some (.ref (qb E + 114)), some (.int kd), some (.int v), some (.int g), none]) (by decide +kernel) (Nat.le_of_ble_eq_true rfl) rfl ?_
  refine ldi_n_5_1 (pc := 0) d_Md_mourner_0 ?_
  refine r_iconst (pc := 1) (v := 0) d_Md_mourner_1 rfl ?_
  refine r_bipush (pc := 2) (v := 6) d_Md_mourner_2 rfl ?_
  refine r_callS (pc := 4) (As := [.int kd, .int 0, .int 6]) k_Md_120 sw_Md_within rfl (by decide) d_Md_mourner_4 (c_Md_within _ _ _) rfl (Nat.le_of_ble_eq_true rfl) (by omega) (by omega) (by omega) (fun v' S' I' J' hq => ?_)
  obtain ⟨rfl, rfl, rfl, rfl⟩ := hq
  refine r_if_ne (pc := 7) (tgt := 12) d_Md_mourner_7 (by decide) (fun c1 => ?_) (fun c1 => ?_)
  · refine ldi_n_5_2 (pc := 12) d_Md_mourner_12 ?_
    refine r_iconst (pc := 13) (v := 0) d_Md_mourner_13 rfl ?_
    refine r_bipush (pc := 14) (v := 9) d_Md_mourner_14 rfl ?_
    refine r_callS (pc := 16) (As := [.int v, .int 0, .int 9]) k_Md_120 sw_Md_within rfl (by decide) d_Md_mourner_16 (c_Md_within _ _ _) rfl (Nat.le_of_ble_eq_true rfl) (by omega) (by omega) (by omega) (fun v' S' I' J' hq => ?_)
    obtain ⟨rfl, rfl, rfl, rfl⟩ := hq
    refine r_if_eq (pc := 19) (tgt := 32) d_Md_mourner_19 (by decide) (fun c2 => ?_) (fun c2 => ?_)
    · refine r_bipush (pc := 32) (v := (-2)) d_Md_mourner_32 rfl ?_
      exact r_iret d_Md_mourner_34 rfl (by omega) (by omega) (by rw [a_Md_mourner, if_neg c1, if_pos c2])
    · refine ldi_n_5_3 (pc := 22) d_Md_mourner_22 ?_
      refine r_iconst (pc := 23) (v := 0) d_Md_mourner_23 rfl ?_
      refine r_bipush (pc := 24) (v := 99) d_Md_mourner_24 rfl ?_
      refine r_callS (pc := 26) (As := [.int g, .int 0, .int 99]) k_Md_120 sw_Md_within rfl (by decide) d_Md_mourner_26 (c_Md_within _ _ _) rfl (Nat.le_of_ble_eq_true rfl) (by omega) (by omega) (by omega) (fun v' S' I' J' hq => ?_)
      obtain ⟨rfl, rfl, rfl, rfl⟩ := hq
      refine r_if_ne (pc := 29) (tgt := 35) d_Md_mourner_29 (by decide) (fun c3 => ?_) (fun c3 => ?_)
      · refine lda_n_5_0 (pc := 35) d_Md_mourner_35 ?_
        refine g_Md_117 (pc := 36) rfl d_Md_mourner_36 (hM.1) ?_
        refine r_top (v := 0) (by exact hF 0 (by decide)) ?_
        refine r_bipush (pc := 39) (v := 6) d_Md_mourner_39 rfl ?_
        refine r_icmp_ne (pc := 41) (tgt := 47) d_Md_mourner_41 (by decide) (fun _ => ?_) (fun c => absurd c (by decide))
        refine lda_n_5_0 (pc := 47) d_Md_mourner_47 ?_
        refine g_Md_9 (pc := 48) rfl d_Md_mourner_48 (hM.1) (hM.r 0 rfl) ?_
        refine lda_n_5_0 (pc := 51) d_Md_mourner_51 ?_
        refine g_Md_117 (pc := 52) rfl d_Md_mourner_52 (hM.1) ?_
        refine r_top (v := 0) (by exact hF 0 (by decide)) ?_
        refine ldi_n_5_1 (pc := 55) d_Md_mourner_55 ?_
        refine r_iast (pc := 56) d_Md_mourner_56 (hM.a 0 rfl) (by first | assumption | exact vp_in_nI (by omega) (by omega) | (unfold vp_in; decide)) ?_
        refine r_nmI (fun I5 hI4 => ?_)
        refine lda_n_5_0 (pc := 57) d_Md_mourner_57 ?_
        refine g_Md_15 (pc := 58) rfl d_Md_mourner_58 (hM.1) (hM.r 1 rfl) ?_
        refine lda_n_5_0 (pc := 61) d_Md_mourner_61 ?_
        refine g_Md_117 (pc := 62) rfl d_Md_mourner_62 (hM.1) ?_
        refine r_top (v := 0) (by rw [hI4, qup_o (by decide)]; exact hF 0 (by decide)) ?_
        refine ldi_n_5_2 (pc := 65) d_Md_mourner_65 ?_
        refine r_iast (pc := 66) d_Md_mourner_66 (hM.a 1 rfl) (by first | assumption | exact vp_in_nI (by omega) (by omega) | (unfold vp_in; decide)) ?_
        refine r_nmI (fun I7 hI6 => ?_)
        refine lda_n_5_0 (pc := 67) d_Md_mourner_67 ?_
        refine g_Md_18 (pc := 68) rfl d_Md_mourner_68 (hM.1) (hM.r 2 rfl) ?_
        refine lda_n_5_0 (pc := 71) d_Md_mourner_71 ?_
        refine g_Md_117 (pc := 72) rfl d_Md_mourner_72 (hM.1) ?_
        refine r_top (v := 0) (by rw [hI6, qup_o (by decide), hI4, qup_o (by decide)]; exact hF 0 (by decide)) ?_
        refine ldi_n_5_3 (pc := 75) d_Md_mourner_75 ?_
        refine r_iast (pc := 76) d_Md_mourner_76 (hM.a 2 rfl) (by first | assumption | exact vp_in_nI (by omega) (by omega) | (unfold vp_in; decide)) ?_
        refine r_nmI (fun I9 hI8 => ?_)
        refine lda_n_5_0 (pc := 77) d_Md_mourner_77 ?_
        refine g_Md_21 (pc := 78) rfl d_Md_mourner_78 (hM.1) (hM.r 3 rfl) ?_
        refine lda_n_5_0 (pc := 81) d_Md_mourner_81 ?_
        refine g_Md_117 (pc := 82) rfl d_Md_mourner_82 (hM.1) ?_
        refine r_top (v := 0) (by rw [hI8, qup_o (by decide), hI6, qup_o (by decide), hI4, qup_o (by decide)]; exact hF 0 (by decide)) ?_
        refine r_iconst (pc := 85) (v := 0) d_Md_mourner_85 rfl ?_
        refine r_iast (pc := 86) d_Md_mourner_86 (hM.a 3 rfl) (by first | assumption | exact vp_in_nI (by omega) (by omega) | (unfold vp_in; decide)) ?_
        refine r_nmI (fun I11 hI10 => ?_)
        refine lda_n_5_0 (pc := 87) d_Md_mourner_87 ?_
        refine g_Md_24 (pc := 88) rfl d_Md_mourner_88 (hM.1) (hM.r 4 rfl) ?_
        refine lda_n_5_0 (pc := 91) d_Md_mourner_91 ?_
        refine g_Md_117 (pc := 92) rfl d_Md_mourner_92 (hM.1) ?_
        refine r_top (v := 0) (by rw [hI10, qup_o (by decide), hI8, qup_o (by decide), hI6, qup_o (by decide), hI4, qup_o (by decide)]; exact hF 0 (by decide)) ?_
        refine r_iconst (pc := 95) (v := 0) d_Md_mourner_95 rfl ?_
        refine r_iast (pc := 96) d_Md_mourner_96 (hM.a 4 rfl) (by first | assumption | exact vp_in_nI (by omega) (by omega) | (unfold vp_in; decide)) ?_
        refine r_nmI (fun I13 hI12 => ?_)
        refine lda_n_5_0 (pc := 97) d_Md_mourner_97 ?_
        refine g_Md_27 (pc := 98) rfl d_Md_mourner_98 (hM.1) (hM.r 5 rfl) ?_
        refine lda_n_5_0 (pc := 101) d_Md_mourner_101 ?_
        refine g_Md_117 (pc := 102) rfl d_Md_mourner_102 (hM.1) ?_
        refine r_top (v := 0) (by rw [hI12, qup_o (by decide), hI10, qup_o (by decide), hI8, qup_o (by decide), hI6, qup_o (by decide), hI4, qup_o (by decide)]; exact hF 0 (by decide)) ?_
        refine r_iconst (pc := 105) (v := 0) d_Md_mourner_105 rfl ?_
        refine r_iast (pc := 106) d_Md_mourner_106 (hM.a 5 rfl) (by first | assumption | exact vp_in_nI (by omega) (by omega) | (unfold vp_in; decide)) ?_
        refine r_nmI (fun I15 hI14 => ?_)
        refine r_iconst (pc := 107) (v := 0) d_Md_mourner_107 rfl ?_
        refine sti_5_4 (pc := 108) d_Md_mourner_108 rfl ?_
        refine ldi_5_4 (pc := 110) d_Md_mourner_110 ?_
        refine r_iconst (pc := 112) (v := 4) d_Md_mourner_112 rfl ?_
        refine r_icmp_ge (pc := 113) (tgt := 137) d_Md_mourner_113 (by decide) (fun c => absurd c (by decide)) (fun _ => ?_)
        refine lda_n_5_0 (pc := 116) d_Md_mourner_116 ?_
        refine g_Md_30 (pc := 117) rfl d_Md_mourner_117 (hM.1) (hM.r 6 rfl) ?_
        refine r_iconst (pc := 120) (v := 4) d_Md_mourner_120 rfl ?_
        refine lda_n_5_0 (pc := 121) d_Md_mourner_121 ?_
        refine g_Md_117 (pc := 122) rfl d_Md_mourner_122 (hM.1) ?_
        refine r_top (v := 0) (by rw [hI14, qup_o (by decide), hI12, qup_o (by decide), hI10, qup_o (by decide), hI8, qup_o (by decide), hI6, qup_o (by decide), hI4, qup_o (by decide)]; exact hF 0 (by decide)) ?_
        refine r_imul (pc := 125) d_Md_mourner_125 ?_
        refine r_top (v := 0) (by decide) ?_
        refine ldi_5_4 (pc := 126) d_Md_mourner_126 ?_
        refine r_iadd (pc := 128) d_Md_mourner_128 ?_
        refine r_top (v := 0) (by decide) ?_
        refine r_iconst (pc := 129) (v := 0) d_Md_mourner_129 rfl ?_
        refine r_iast (pc := 130) d_Md_mourner_130 (hM.a 6 rfl) (by first | assumption | exact vp_in_nI (by omega) (by omega) | (unfold vp_in; decide)) ?_
        refine r_nmI (fun I17 hI16 => ?_)
        refine inc_5_4 (pc := 131) (w := 1) d_Md_mourner_131 rfl rfl ?_
        rw [show (0 : Int32) + 1 = 1 from by decide]
        refine r_goto (pc := 134) (tgt := 110) d_Md_mourner_134 (by decide) ?_
        refine ldi_5_4 (pc := 110) d_Md_mourner_110 ?_
        refine r_iconst (pc := 112) (v := 4) d_Md_mourner_112 rfl ?_
        refine r_icmp_ge (pc := 113) (tgt := 137) d_Md_mourner_113 (by decide) (fun c => absurd c (by decide)) (fun _ => ?_)
        refine lda_n_5_0 (pc := 116) d_Md_mourner_116 ?_
        refine g_Md_30 (pc := 117) rfl d_Md_mourner_117 (hM.1) (hM.r 6 rfl) ?_
        refine r_iconst (pc := 120) (v := 4) d_Md_mourner_120 rfl ?_
        refine lda_n_5_0 (pc := 121) d_Md_mourner_121 ?_
        refine g_Md_117 (pc := 122) rfl d_Md_mourner_122 (hM.1) ?_
        refine r_top (v := 0) (by rw [hI16, qup_o (by decide), hI14, qup_o (by decide), hI12, qup_o (by decide), hI10, qup_o (by decide), hI8, qup_o (by decide), hI6, qup_o (by decide), hI4, qup_o (by decide)]; exact hF 0 (by decide)) ?_
        refine r_imul (pc := 125) d_Md_mourner_125 ?_
        refine r_top (v := 0) (by decide) ?_
        refine ldi_5_4 (pc := 126) d_Md_mourner_126 ?_
        refine r_iadd (pc := 128) d_Md_mourner_128 ?_
        refine r_top (v := 1) (by decide) ?_
        refine r_iconst (pc := 129) (v := 0) d_Md_mourner_129 rfl ?_
        refine r_iast (pc := 130) d_Md_mourner_130 (hM.a 6 rfl) (by first | assumption | exact vp_in_nI (by omega) (by omega) | (unfold vp_in; decide)) ?_
        refine r_nmI (fun I19 hI18 => ?_)
        refine inc_5_4 (pc := 131) (w := 1) d_Md_mourner_131 rfl rfl ?_
        rw [show (1 : Int32) + 1 = 2 from by decide]
        refine r_goto (pc := 134) (tgt := 110) d_Md_mourner_134 (by decide) ?_
        refine ldi_5_4 (pc := 110) d_Md_mourner_110 ?_
        refine r_iconst (pc := 112) (v := 4) d_Md_mourner_112 rfl ?_
        refine r_icmp_ge (pc := 113) (tgt := 137) d_Md_mourner_113 (by decide) (fun c => absurd c (by decide)) (fun _ => ?_)
        refine lda_n_5_0 (pc := 116) d_Md_mourner_116 ?_
        refine g_Md_30 (pc := 117) rfl d_Md_mourner_117 (hM.1) (hM.r 6 rfl) ?_
        refine r_iconst (pc := 120) (v := 4) d_Md_mourner_120 rfl ?_
        refine lda_n_5_0 (pc := 121) d_Md_mourner_121 ?_
        refine g_Md_117 (pc := 122) rfl d_Md_mourner_122 (hM.1) ?_
        refine r_top (v := 0) (by rw [hI18, qup_o (by decide), hI16, qup_o (by decide), hI14, qup_o (by decide), hI12, qup_o (by decide), hI10, qup_o (by decide), hI8, qup_o (by decide), hI6, qup_o (by decide), hI4, qup_o (by decide)]; exact hF 0 (by decide)) ?_
        refine r_imul (pc := 125) d_Md_mourner_125 ?_
        refine r_top (v := 0) (by decide) ?_
        refine ldi_5_4 (pc := 126) d_Md_mourner_126 ?_
        refine r_iadd (pc := 128) d_Md_mourner_128 ?_
        refine r_top (v := 2) (by decide) ?_
        refine r_iconst (pc := 129) (v := 0) d_Md_mourner_129 rfl ?_
        refine r_iast (pc := 130) d_Md_mourner_130 (hM.a 6 rfl) (by first | assumption | exact vp_in_nI (by omega) (by omega) | (unfold vp_in; decide)) ?_
        refine r_nmI (fun I21 hI20 => ?_)
        refine inc_5_4 (pc := 131) (w := 1) d_Md_mourner_131 rfl rfl ?_
        rw [show (2 : Int32) + 1 = 3 from by decide]
        refine r_goto (pc := 134) (tgt := 110) d_Md_mourner_134 (by decide) ?_
        refine ldi_5_4 (pc := 110) d_Md_mourner_110 ?_
        refine r_iconst (pc := 112) (v := 4) d_Md_mourner_112 rfl ?_
        refine r_icmp_ge (pc := 113) (tgt := 137) d_Md_mourner_113 (by decide) (fun c => absurd c (by decide)) (fun _ => ?_)
        refine lda_n_5_0 (pc := 116) d_Md_mourner_116 ?_
        refine g_Md_30 (pc := 117) rfl d_Md_mourner_117 (hM.1) (hM.r 6 rfl) ?_
        refine r_iconst (pc := 120) (v := 4) d_Md_mourner_120 rfl ?_
        refine lda_n_5_0 (pc := 121) d_Md_mourner_121 ?_
        refine g_Md_117 (pc := 122) rfl d_Md_mourner_122 (hM.1) ?_
        refine r_top (v := 0) (by rw [hI20, qup_o (by decide), hI18, qup_o (by decide), hI16, qup_o (by decide), hI14, qup_o (by decide), hI12, qup_o (by decide), hI10, qup_o (by decide), hI8, qup_o (by decide), hI6, qup_o (by decide), hI4, qup_o (by decide)]; exact hF 0 (by decide)) ?_
        refine r_imul (pc := 125) d_Md_mourner_125 ?_
        refine r_top (v := 0) (by decide) ?_
        refine ldi_5_4 (pc := 126) d_Md_mourner_126 ?_
        refine r_iadd (pc := 128) d_Md_mourner_128 ?_
        refine r_top (v := 3) (by decide) ?_
        refine r_iconst (pc := 129) (v := 0) d_Md_mourner_129 rfl ?_
        refine r_iast (pc := 130) d_Md_mourner_130 (hM.a 6 rfl) (by first | assumption | exact vp_in_nI (by omega) (by omega) | (unfold vp_in; decide)) ?_
        refine r_nmI (fun I23 hI22 => ?_)
        refine inc_5_4 (pc := 131) (w := 1) d_Md_mourner_131 rfl rfl ?_
        rw [show (3 : Int32) + 1 = 4 from by decide]
        refine r_goto (pc := 134) (tgt := 110) d_Md_mourner_134 (by decide) ?_
        refine ldi_5_4 (pc := 110) d_Md_mourner_110 ?_
        refine r_iconst (pc := 112) (v := 4) d_Md_mourner_112 rfl ?_
        refine r_icmp_ge (pc := 113) (tgt := 137) d_Md_mourner_113 (by decide) (fun _ => ?_) (fun c => absurd (by decide) c)
        refine lda_n_5_0 (pc := 137) d_Md_mourner_137 ?_
        refine r_dup (pc := 138) d_Md_mourner_138 rfl ?_
        refine g_Md_117 (pc := 139) rfl d_Md_mourner_139 (hM.1) ?_
        refine r_top (v := 0) (by rw [hI22, qup_o (by decide), hI20, qup_o (by decide), hI18, qup_o (by decide), hI16, qup_o (by decide), hI14, qup_o (by decide), hI12, qup_o (by decide), hI10, qup_o (by decide), hI8, qup_o (by decide), hI6, qup_o (by decide), hI4, qup_o (by decide)]; exact hF 0 (by decide)) ?_
        refine r_dup_x1 (pc := 142) d_Md_mourner_142 rfl rfl ?_
        refine r_iconst (pc := 143) (v := 1) d_Md_mourner_143 rfl ?_
        refine r_iadd (pc := 144) d_Md_mourner_144 ?_
        refine r_top (v := 1) (by decide) ?_
        refine p_Md_117 (pc := 145) rfl d_Md_mourner_145 (hM.1) ?_
        refine r_nmI (fun I25 hI24 => ?_)
        exact r_iret d_Md_mourner_148 rfl (by omega) (by omega) (by rw [a_Md_mourner, if_neg c1, if_neg c2, if_neg c3])
      · refine r_bipush (pc := 32) (v := (-2)) d_Md_mourner_32 rfl ?_
        exact r_iret d_Md_mourner_34 rfl (by omega) (by omega) (by rw [a_Md_mourner, if_neg c1, if_neg c2, if_pos c3])
  · refine r_iconst (pc := 10) (v := (-1)) d_Md_mourner_10 rfl ?_
    exact r_iret d_Md_mourner_11 rfl (by omega) (by omega) (by rw [a_Md_mourner, if_pos c1])
def a_Md_of (p : Int32) (x : Int32) : Int32 := (-1)
theorem k_Md_of {p x : Int32} (hM : isMd S) (hF : ∀ j, j ≠ 18 → I 114 j = 0) (hh : I 114 18 = -1) : qMet E y_Md_of b_Md_of 3 (some .int) 2 0 0 [.ref (qb E + 114), .int p, .int x] S I J (fun r S' I' J' => r = some (.int (a_Md_of p x))) := by
  refine qMet.of (L := [some (.ref (qb E + 114)), some (.int p), some (.int x)]) (by decide +kernel) (Nat.le_of_ble_eq_true rfl) rfl ?_
  refine lda_n_3_0 (pc := 0) d_Md_of_0 ?_
  refine ldi_n_3_1 (pc := 1) d_Md_of_1 ?_
  refine r_callV (pc := 2) (As := [.int p]) (k := 9) (N := 56) (T := T_Md) k_Md_127 im_Md_isOne se_Md_isOne rfl (by decide) rfl (by decide) d_Md_of_2 hM.1 (c_Md_isOne0 hM (by exact hF 0 (by decide))) rfl (Nat.le_of_ble_eq_true rfl) (by omega) (by omega) (by omega) (fun v' S' I' J' hq => ?_)
  obtain ⟨rfl, rfl, rfl, rfl⟩ := hq
  refine r_if_ne (pc := 5) (tgt := 10) d_Md_of_5 (by decide) (fun c => absurd (by decide) c) (fun _ => ?_)
  refine r_iconst (pc := 8) (v := (-1)) d_Md_of_8 rfl ?_
  exact r_iret d_Md_of_9 rfl (by omega) (by omega) rfl
def a_Md_set (p : Int32) (x : Int32) (n : Int32) : Int32 := (-1)
theorem k_Md_set {p x n : Int32} (hM : isMd S) (hF : ∀ j, j ≠ 18 → I 114 j = 0) (hh : I 114 18 = -1) : qMet E y_Md_set b_Md_set 5 (some .int) 2 0 0 [.ref (qb E + 114), .int p, .int x, .int n] S I J (fun r S' I' J' => r = some (.int (a_Md_set p x n))) := by
  refine qMet.of (L := [some (.ref (qb E + 114)), some (.int p), some (.int x), some (.int n), none]) (by decide +kernel) (Nat.le_of_ble_eq_true rfl) rfl ?_
  refine lda_n_5_0 (pc := 0) d_Md_set_0 ?_
  refine ldi_n_5_1 (pc := 1) d_Md_set_1 ?_
  refine r_callV (pc := 2) (As := [.int p]) (k := 9) (N := 56) (T := T_Md) k_Md_127 im_Md_isOne se_Md_isOne rfl (by decide) rfl (by decide) d_Md_set_2 hM.1 (c_Md_isOne0 hM (by exact hF 0 (by decide))) rfl (Nat.le_of_ble_eq_true rfl) (by omega) (by omega) (by omega) (fun v' S' I' J' hq => ?_)
  obtain ⟨rfl, rfl, rfl, rfl⟩ := hq
  refine r_if_eq (pc := 5) (tgt := 17) d_Md_set_5 (by decide) (fun _ => ?_) (fun c => absurd (by decide) c)
  refine r_iconst (pc := 17) (v := (-1)) d_Md_set_17 rfl ?_
  exact r_iret d_Md_set_18 rfl (by omega) (by omega) rfl
def a_Md_done (p : Int32) (x : Int32) : Int32 := (-1)
theorem k_Md_done {p x : Int32} (hM : isMd S) (hF : ∀ j, j ≠ 18 → I 114 j = 0) (hh : I 114 18 = -1) : qMet E y_Md_done b_Md_done 4 (some .int) 2 0 0 [.ref (qb E + 114), .int p, .int x] S I J (fun r S' I' J' => r = some (.int (a_Md_done p x))) := by
  refine qMet.of (L := [some (.ref (qb E + 114)), some (.int p), some (.int x), none]) (by decide +kernel) (Nat.le_of_ble_eq_true rfl) rfl ?_
  refine lda_n_4_0 (pc := 0) d_Md_done_0 ?_
  refine ldi_n_4_1 (pc := 1) d_Md_done_1 ?_
  refine r_callV (pc := 2) (As := [.int p]) (k := 9) (N := 56) (T := T_Md) k_Md_127 im_Md_isOne se_Md_isOne rfl (by decide) rfl (by decide) d_Md_done_2 hM.1 (c_Md_isOne0 hM (by exact hF 0 (by decide))) rfl (Nat.le_of_ble_eq_true rfl) (by omega) (by omega) (by omega) (fun v' S' I' J' hq => ?_)
  obtain ⟨rfl, rfl, rfl, rfl⟩ := hq
  refine r_if_ne (pc := 5) (tgt := 10) d_Md_done_5 (by decide) (fun c => absurd (by decide) c) (fun _ => ?_)
  refine r_iconst (pc := 8) (v := (-1)) d_Md_done_8 rfl ?_
  exact r_iret d_Md_done_9 rfl (by omega) (by omega) rfl
def a_Md_list (p : Int32) : Int32 := (if p = (-1) then 0 else (-1))
theorem k_Md_list {p : Int32} (hM : isMd S) (hF : ∀ j, j ≠ 18 → I 114 j = 0) (hh : I 114 18 = -1) : qMet E y_Md_list b_Md_list 2 (some .int) 2 0 0 [.ref (qb E + 114), .int p] S I J (fun r S' I' J' => r = some (.int (a_Md_list p))) := by
  refine qMet.of (L := [some (.ref (qb E + 114)), some (.int p)]) (by decide +kernel) (Nat.le_of_ble_eq_true rfl) rfl ?_
  refine ldi_n_2_1 (pc := 0) d_Md_list_0 ?_
  refine r_iconst (pc := 1) (v := (-1)) d_Md_list_1 rfl ?_
  refine r_icmp_ne (pc := 2) (tgt := 12) d_Md_list_2 (by decide) (fun c1 => ?_) (fun c1 => ?_)
  · refine lda_n_2_0 (pc := 12) d_Md_list_12 ?_
    refine ldi_n_2_1 (pc := 13) d_Md_list_13 ?_
    refine r_callV (pc := 14) (As := [.int p]) (k := 9) (N := 56) (T := T_Md) k_Md_127 im_Md_isOne se_Md_isOne rfl (by decide) rfl (by decide) d_Md_list_14 hM.1 (c_Md_isOne0 hM (by exact hF 0 (by decide))) rfl (Nat.le_of_ble_eq_true rfl) (by omega) (by omega) (by omega) (fun v' S' I' J' hq => ?_)
    obtain ⟨rfl, rfl, rfl, rfl⟩ := hq
    refine r_if_ne (pc := 17) (tgt := 22) d_Md_list_17 (by decide) (fun c => absurd (by decide) c) (fun _ => ?_)
    refine r_iconst (pc := 20) (v := (-1)) d_Md_list_20 rfl ?_
    exact r_iret d_Md_list_21 rfl (by omega) (by omega) (by rw [a_Md_list, if_neg c1])
  · refine lda_n_2_0 (pc := 5) d_Md_list_5 ?_
    refine r_iconst (pc := 6) (v := 0) d_Md_list_6 rfl ?_
    refine p_Md_124 (pc := 7) rfl d_Md_list_7 (hM.1) ?_
    refine r_nmI (fun I3 hI2 => ?_)
    refine r_iconst (pc := 10) (v := 0) d_Md_list_10 rfl ?_
    exact r_iret d_Md_list_11 rfl (by omega) (by omega) (by rw [a_Md_list, if_pos c1])
def a_Md_swap (p : Int32) (q : Int32) : Int32 := (-1)
theorem k_Md_swap {p q : Int32} (hM : isMd S) (hF : ∀ j, j ≠ 18 → I 114 j = 0) (hh : I 114 18 = -1) : qMet E y_Md_swap b_Md_swap 5 (some .int) 2 0 0 [.ref (qb E + 114), .int p, .int q] S I J (fun r S' I' J' => r = some (.int (a_Md_swap p q))) := by
  refine qMet.of (L := [some (.ref (qb E + 114)), some (.int p), some (.int q), none, none]) (by decide +kernel) (Nat.le_of_ble_eq_true rfl) rfl ?_
  refine lda_n_5_0 (pc := 0) d_Md_swap_0 ?_
  refine ldi_n_5_1 (pc := 1) d_Md_swap_1 ?_
  refine r_callV (pc := 2) (As := [.int p]) (k := 9) (N := 56) (T := T_Md) k_Md_127 im_Md_isOne se_Md_isOne rfl (by decide) rfl (by decide) d_Md_swap_2 hM.1 (c_Md_isOne0 hM (by exact hF 0 (by decide))) rfl (Nat.le_of_ble_eq_true rfl) (by omega) (by omega) (by omega) (fun v' S' I' J' hq => ?_)
  obtain ⟨rfl, rfl, rfl, rfl⟩ := hq
  refine r_if_eq (pc := 5) (tgt := 16) d_Md_swap_5 (by decide) (fun _ => ?_) (fun c => absurd (by decide) c)
  refine r_iconst (pc := 16) (v := (-1)) d_Md_swap_16 rfl ?_
  exact r_iret d_Md_swap_17 rfl (by omega) (by omega) rfl
def a_Md_row (p : Int32) (q : Int32) (n : Int32) : Int32 := (-1)
theorem k_Md_row {p q n : Int32} (hM : isMd S) (hF : ∀ j, j ≠ 18 → I 114 j = 0) (hh : I 114 18 = -1) : qMet E y_Md_row b_Md_row 5 (some .int) 2 0 0 [.ref (qb E + 114), .int p, .int q, .int n] S I J (fun r S' I' J' => r = some (.int (a_Md_row p q n))) := by
  refine qMet.of (L := [some (.ref (qb E + 114)), some (.int p), some (.int q), some (.int n), none]) (by decide +kernel) (Nat.le_of_ble_eq_true rfl) rfl ?_
  refine lda_n_5_0 (pc := 0) d_Md_row_0 ?_
  refine ldi_n_5_1 (pc := 1) d_Md_row_1 ?_
  refine r_callV (pc := 2) (As := [.int p]) (k := 9) (N := 56) (T := T_Md) k_Md_127 im_Md_isOne se_Md_isOne rfl (by decide) rfl (by decide) d_Md_row_2 hM.1 (c_Md_isOne0 hM (by exact hF 0 (by decide))) rfl (Nat.le_of_ble_eq_true rfl) (by omega) (by omega) (by omega) (fun v' S' I' J' hq => ?_)
  obtain ⟨rfl, rfl, rfl, rfl⟩ := hq
  refine r_if_eq (pc := 5) (tgt := 17) d_Md_row_5 (by decide) (fun _ => ?_) (fun c => absurd (by decide) c)
  refine r_iconst (pc := 17) (v := (-1)) d_Md_row_17 rfl ?_
  exact r_iret d_Md_row_18 rfl (by omega) (by omega) rfl
def a_Md_feed (x : Int32) : Int32 := (if (qwithin x 0 127) = 0 then (-2) else 1)
theorem k_Md_feed {x : Int32} (hM : isMd S) (hF : ∀ j, j ≠ 18 → I 114 j = 0) (hh : I 114 18 = -1) : qMet E y_Md_feed b_Md_feed 2 (some .int) 1 0 0 [.ref (qb E + 114), .int x] S I J (fun r S' I' J' => r = some (.int (a_Md_feed x))) := by
  refine qMet.of (L := [some (.ref (qb E + 114)), some (.int x)]) (by decide +kernel) (Nat.le_of_ble_eq_true rfl) rfl ?_
  refine ldi_n_2_1 (pc := 0) d_Md_feed_0 ?_
  refine r_iconst (pc := 1) (v := 0) d_Md_feed_1 rfl ?_
  refine r_bipush (pc := 2) (v := 127) d_Md_feed_2 rfl ?_
  refine r_callS (pc := 4) (As := [.int x, .int 0, .int 127]) k_Md_120 sw_Md_within rfl (by decide) d_Md_feed_4 (c_Md_within _ _ _) rfl (Nat.le_of_ble_eq_true rfl) (by omega) (by omega) (by omega) (fun v' S' I' J' hq => ?_)
  obtain ⟨rfl, rfl, rfl, rfl⟩ := hq
  refine r_if_ne (pc := 7) (tgt := 13) d_Md_feed_7 (by decide) (fun c1 => ?_) (fun c1 => ?_)
  · refine lda_n_2_0 (pc := 13) d_Md_feed_13 ?_
    refine g_Md_143 (pc := 14) rfl d_Md_feed_14 (hM.1) ?_
    refine r_top (v := 0) (by exact hF 11 (by decide)) ?_
    refine r_bipush (pc := 17) (v := 100) d_Md_feed_17 rfl ?_
    refine r_icmp_ne (pc := 19) (tgt := 25) d_Md_feed_19 (by decide) (fun _ => ?_) (fun c => absurd c (by decide))
    refine lda_n_2_0 (pc := 25) d_Md_feed_25 ?_
    refine g_Md_36 (pc := 26) rfl d_Md_feed_26 (hM.1) (hM.r 8 rfl) ?_
    refine lda_n_2_0 (pc := 29) d_Md_feed_29 ?_
    refine r_dup (pc := 30) d_Md_feed_30 rfl ?_
    refine g_Md_143 (pc := 31) rfl d_Md_feed_31 (hM.1) ?_
    refine r_top (v := 0) (by exact hF 11 (by decide)) ?_
    refine r_dup_x1 (pc := 34) d_Md_feed_34 rfl rfl ?_
    refine r_iconst (pc := 35) (v := 1) d_Md_feed_35 rfl ?_
    refine r_iadd (pc := 36) d_Md_feed_36 ?_
    refine r_top (v := 1) (by decide) ?_
    refine p_Md_143 (pc := 37) rfl d_Md_feed_37 (hM.1) ?_
    refine r_nmI (fun I3 hI2 => ?_)
    refine ldi_n_2_1 (pc := 40) d_Md_feed_40 ?_
    refine r_iast (pc := 41) d_Md_feed_41 (hM.a 8 rfl) (by first | assumption | exact vp_in_nI (by omega) (by omega) | (unfold vp_in; decide)) ?_
    refine r_nmI (fun I5 hI4 => ?_)
    refine lda_n_2_0 (pc := 42) d_Md_feed_42 ?_
    refine g_Md_143 (pc := 43) rfl d_Md_feed_43 (hM.1) ?_
    refine r_top (v := 1) (by rw [hI4, qup_o (by decide), hI2, qup_at]) ?_
    exact r_iret d_Md_feed_46 rfl (by omega) (by omega) (by rw [a_Md_feed, if_neg c1])
  · refine r_bipush (pc := 10) (v := (-2)) d_Md_feed_10 rfl ?_
    exact r_iret d_Md_feed_12 rfl (by omega) (by omega) (by rw [a_Md_feed, if_pos c1])
theorem c_Md_isClause0 {x : Int32} (hM : isMd S) (h11 : I 114 11 = 0) (h13 : I 114 13 = 0) : qMet E y_Md_isClause b_Md_isClause 4 (some .boolean) 0 0 0 [.ref (qb E + 114), .int x] S I J (qPi S I J 0) := by
  refine qMet.of (L := [some (.ref (qb E + 114)), some (.int x), none, none]) (by decide +kernel) (Nat.le_of_ble_eq_true rfl) rfl ?_
  refine r_iconst (pc := 0) (v := (-1)) d_Md_isClause_0 rfl ?_
  refine sti_n_4_2 (pc := 1) d_Md_isClause_1 rfl ?_
  refine lda_n_4_0 (pc := 2) d_Md_isClause_2 ?_
  refine g_Md_146 (pc := 3) rfl d_Md_isClause_3 (hM.1) ?_
  refine r_top (v := 0) (by exact h13) ?_
  refine lda_n_4_0 (pc := 6) d_Md_isClause_6 ?_
  refine g_Md_143 (pc := 7) rfl d_Md_isClause_7 (hM.1) ?_
  refine r_top (v := 0) (by exact h11) ?_
  refine r_icmp_ge (pc := 10) (tgt := 69) d_Md_isClause_10 (by decide) (fun _ => ?_) (fun c => absurd (by decide) c)
  refine ldi_n_4_2 (pc := 69) d_Md_isClause_69 ?_
  refine r_if_ne (pc := 70) (tgt := 82) d_Md_isClause_70 (by decide) (fun _ => ?_) (fun c => absurd c (by decide))
  refine ldi_n_4_2 (pc := 82) d_Md_isClause_82 ?_
  refine r_iconst (pc := 83) (v := 1) d_Md_isClause_83 rfl ?_
  refine r_icmp_ne (pc := 84) (tgt := 96) d_Md_isClause_84 (by decide) (fun _ => ?_) (fun c => absurd c (by decide))
  refine ldi_n_4_2 (pc := 96) d_Md_isClause_96 ?_
  refine r_iconst (pc := 97) (v := 2) d_Md_isClause_97 rfl ?_
  refine r_icmp_ne (pc := 98) (tgt := 114) d_Md_isClause_98 (by decide) (fun _ => ?_) (fun c => absurd c (by decide))
  refine r_iconst (pc := 114) (v := 0) d_Md_isClause_114 rfl ?_
  refine sti_n_4_3 (pc := 115) d_Md_isClause_115 rfl ?_
  refine ldi_n_4_3 (pc := 116) d_Md_isClause_116 ?_
  refine r_if_eq (pc := 117) (tgt := 127) d_Md_isClause_117 (by decide) (fun _ => ?_) (fun c => absurd (by decide) c)
  refine r_iconst (pc := 127) (v := 0) d_Md_isClause_127 rfl ?_
  exact r_nret d_Md_isClause_128 rfl (qbool_n (by first | exact Or.inl rfl | exact Or.inr rfl | assumption | exact qwithin_b | exact qbit_b)) (by omega) (by omega) ⟨rfl, rfl, rfl, rfl⟩
def a_Md_island  : Int32 := (-10)
theorem k_Md_island  (hM : isMd S) (hF : ∀ j, j ≠ 18 → I 114 j = 0) (hh : I 114 18 = -1) : qMet E y_Md_island b_Md_island 5 (some .int) 1 0 0 [.ref (qb E + 114)] S I J (fun r S' I' J' => r = some (.int (a_Md_island))) := by
  refine qMet.of (L := [some (.ref (qb E + 114)), none, none, none, none]) (by decide +kernel) (Nat.le_of_ble_eq_true rfl) rfl ?_
  refine lda_n_5_0 (pc := 0) d_Md_island_0 ?_
  refine g_Md_215 (pc := 1) rfl d_Md_island_1 (hM.1) ?_
  refine r_top (v := 0) (by exact hF 17 (by decide)) ?_
  refine r_bipush (pc := 4) (v := 6) d_Md_island_4 rfl ?_
  refine r_icmp_ne (pc := 6) (tgt := 12) d_Md_island_6 (by decide) (fun _ => ?_) (fun c => absurd c (by decide))
  refine lda_n_5_0 (pc := 12) d_Md_island_12 ?_
  refine g_Md_171 (pc := 13) rfl d_Md_island_13 (hM.1) ?_
  refine r_top (v := 0) (by exact hF 25 (by decide)) ?_
  refine sti_n_5_1 (pc := 16) d_Md_island_16 rfl ?_
  refine lda_n_5_0 (pc := 17) d_Md_island_17 ?_
  refine r_iconst (pc := 18) (v := 0) d_Md_island_18 rfl ?_
  refine p_Md_146 (pc := 19) rfl d_Md_island_19 (hM.1) ?_
  refine r_nmI (fun I2 hI1 => ?_)
  refine r_iconst (pc := 22) (v := 0) d_Md_island_22 rfl ?_
  refine sti_n_5_2 (pc := 23) d_Md_island_23 rfl ?_
  refine r_iconst (pc := 24) (v := 1) d_Md_island_24 rfl ?_
  refine sti_n_5_3 (pc := 25) d_Md_island_25 rfl ?_
  refine r_iconst (pc := 26) (v := 0) d_Md_island_26 rfl ?_
  refine sti_5_4 (pc := 27) d_Md_island_27 rfl ?_
  refine ldi_n_5_3 (pc := 29) d_Md_island_29 ?_
  refine r_if_eq (pc := 30) (tgt := 123) d_Md_island_30 (by decide) (fun c => absurd c (by decide)) (fun _ => ?_)
  refine ldi_5_4 (pc := 33) d_Md_island_33 ?_
  refine r_if_ne (pc := 35) (tgt := 123) d_Md_island_35 (by decide) (fun c => absurd (by decide) c) (fun _ => ?_)
  refine ldi_n_5_2 (pc := 38) d_Md_island_38 ?_
  refine r_bipush (pc := 39) (v := 10) d_Md_island_39 rfl ?_
  refine r_icmp_ge (pc := 41) (tgt := 64) d_Md_island_41 (by decide) (fun c => absurd c (by decide)) (fun _ => ?_)
  refine lda_n_5_0 (pc := 44) d_Md_island_44 ?_
  refine r_bipush (pc := 45) (v := 10) d_Md_island_45 rfl ?_
  refine lda_n_5_0 (pc := 47) d_Md_island_47 ?_
  refine g_Md_215 (pc := 48) rfl d_Md_island_48 (hM.1) ?_
  refine r_top (v := 0) (by rw [hI1, qup_j (by decide)]; exact hF 17 (by decide)) ?_
  refine r_imul (pc := 51) d_Md_island_51 ?_
  refine r_top (v := 0) (by decide) ?_
  refine ldi_n_5_2 (pc := 52) d_Md_island_52 ?_
  refine r_iadd (pc := 53) d_Md_island_53 ?_
  refine r_top (v := 0) (by decide) ?_
  refine r_callV (pc := 54) (As := [.int 0]) (k := 9) (N := 56) (T := T_Md) k_Md_218 im_Md_isClause se_Md_isClause rfl (by decide) rfl (by decide) d_Md_island_54 hM.1 (c_Md_isClause0 hM (by rw [hI1, qup_j (by decide)]; exact hF 11 (by decide)) (by rw [hI1, qup_at])) rfl (Nat.le_of_ble_eq_true rfl) (by omega) (by omega) (by omega) (fun v' S' I' J' hq => ?_)
  obtain ⟨rfl, rfl, rfl, rfl⟩ := hq
  refine r_if_eq (pc := 57) (tgt := 64) d_Md_island_57 (by decide) (fun _ => ?_) (fun c => absurd (by decide) c)
  refine r_iconst (pc := 64) (v := 0) d_Md_island_64 rfl ?_
  refine sti_n_5_3 (pc := 65) d_Md_island_65 rfl ?_
  refine ldi_n_5_3 (pc := 66) d_Md_island_66 ?_
  refine r_if_ne (pc := 67) (tgt := 73) d_Md_island_67 (by decide) (fun c => absurd (by decide) c) (fun _ => ?_)
  refine r_goto (pc := 70) (tgt := 29) d_Md_island_70 (by decide) ?_
  refine ldi_n_5_3 (pc := 29) d_Md_island_29 ?_
  refine r_if_eq (pc := 30) (tgt := 123) d_Md_island_30 (by decide) (fun _ => ?_) (fun c => absurd (by decide) c)
  refine lda_n_5_0 (pc := 123) d_Md_island_123 ?_
  refine r_iconst (pc := 124) (v := 0) d_Md_island_124 rfl ?_
  refine p_Md_143 (pc := 125) rfl d_Md_island_125 (hM.1) ?_
  refine r_nmI (fun I4 hI3 => ?_)
  refine ldi_5_4 (pc := 128) d_Md_island_128 ?_
  refine r_if_ne (pc := 130) (tgt := 146) d_Md_island_130 (by decide) (fun c => absurd (by decide) c) (fun _ => ?_)
  refine lda_n_5_0 (pc := 133) d_Md_island_133 ?_
  refine ldi_n_5_1 (pc := 134) d_Md_island_134 ?_
  refine p_Md_171 (pc := 135) rfl d_Md_island_135 (hM.1) ?_
  refine r_nmI (fun I6 hI5 => ?_)
  refine r_bipush (pc := 138) (v := (-10)) d_Md_island_138 rfl ?_
  refine lda_n_5_0 (pc := 140) d_Md_island_140 ?_
  refine g_Md_146 (pc := 141) rfl d_Md_island_141 (hM.1) ?_
  refine r_top (v := 0) (by rw [hI5, qup_j (by decide), hI3, qup_j (by decide), hI1, qup_at]) ?_
  refine r_isub (pc := 144) d_Md_island_144 ?_
  refine r_top (v := (-10)) (by decide) ?_
  exact r_iret d_Md_island_145 rfl (by omega) (by omega) rfl
def a_Md_told (x : Int32) : Int32 := (if x = 0 then 0 else (if x = 1 then 0 else (if x = 2 then 0 else (if x = 3 then 0 else (if x = 4 then 0 else (if x = 5 then (-5) else (if x = 6 then (-5) else (if x = 7 then (-5) else (if x = 8 then (-5) else (-1))))))))))
theorem k_Md_told {x : Int32} (hM : isMd S) (hF : ∀ j, j ≠ 18 → I 114 j = 0) (hh : I 114 18 = -1) : qMet E y_Md_told b_Md_told 2 (some .int) 3 0 0 [.ref (qb E + 114), .int x] S I J (fun r S' I' J' => r = some (.int (a_Md_told x))) := by
  refine qMet.of (L := [some (.ref (qb E + 114)), some (.int x)]) (by decide +kernel) (Nat.le_of_ble_eq_true rfl) rfl ?_
  refine ldi_n_2_1 (pc := 0) d_Md_told_0 ?_
  by_cases e1 : x = 0
  · refine r_tableIn (pc := 1) (off := 51) (tgt := 52) d_Md_told_1 (by rw [e1]; decide) (by rw [e1]; decide) (by rw [e1]; decide +kernel) (by decide) ?_
    refine lda_n_2_0 (pc := 52) d_Md_told_52 ?_
    refine g_Md_135 (pc := 53) rfl d_Md_told_53 (hM.1) ?_
    refine r_top (v := 0) (by exact hF 10 (by decide)) ?_
    exact r_iret d_Md_told_56 rfl (by omega) (by omega) (by rw [a_Md_told, if_pos e1])
  · by_cases e2 : x = 1
    · refine r_tableIn (pc := 1) (off := 56) (tgt := 57) d_Md_told_1 (by rw [e2]; decide) (by rw [e2]; decide) (by rw [e2]; decide +kernel) (by decide) ?_
      refine lda_n_2_0 (pc := 57) d_Md_told_57 ?_
      refine r_callV (pc := 58) (As := []) (k := 9) (N := 56) (T := T_Md) k_Md_229 im_Md_lostBy se_Md_lostBy rfl (by decide) rfl (by decide) d_Md_told_58 hM.1 (c_Md_lostBy0 hM (by exact hh)) rfl (Nat.le_of_ble_eq_true rfl) (by omega) (by omega) (by omega) (fun v' S' I' J' hq => ?_)
      obtain ⟨rfl, rfl, rfl, rfl⟩ := hq
      exact r_iret d_Md_told_61 rfl (by omega) (by omega) (by rw [a_Md_told, if_neg e1, if_pos e2])
    · by_cases e3 : x = 2
      · refine r_tableIn (pc := 1) (off := 61) (tgt := 62) d_Md_told_1 (by rw [e3]; decide) (by rw [e3]; decide) (by rw [e3]; decide +kernel) (by decide) ?_
        refine lda_n_2_0 (pc := 62) d_Md_told_62 ?_
        refine lda_n_2_0 (pc := 63) d_Md_told_63 ?_
        refine g_Md_135 (pc := 64) rfl d_Md_told_64 (hM.1) ?_
        refine r_top (v := 0) (by exact hF 10 (by decide)) ?_
        refine r_callV (pc := 67) (As := [.int 0]) (k := 9) (N := 56) (T := T_Md) k_Md_241 im_Md_isLost se_Md_isLost rfl (by decide) rfl (by decide) d_Md_told_67 hM.1 (c_Md_isLost0 hM (by exact hh)) rfl (Nat.le_of_ble_eq_true rfl) (by omega) (by omega) (by omega) (fun v' S' I' J' hq => ?_)
        obtain ⟨rfl, rfl, rfl, rfl⟩ := hq
        refine r_if_eq (pc := 70) (tgt := 77) d_Md_told_70 (by decide) (fun _ => ?_) (fun c => absurd (by decide) c)
        refine r_iconst (pc := 77) (v := 0) d_Md_told_77 rfl ?_
        exact r_iret d_Md_told_78 rfl (by omega) (by omega) (by rw [a_Md_told, if_neg e1, if_neg e2, if_pos e3])
      · by_cases e4 : x = 3
        · refine r_tableIn (pc := 1) (off := 78) (tgt := 79) d_Md_told_1 (by rw [e4]; decide) (by rw [e4]; decide) (by rw [e4]; decide +kernel) (by decide) ?_
          refine lda_n_2_0 (pc := 79) d_Md_told_79 ?_
          refine r_callV (pc := 80) (As := []) (k := 9) (N := 56) (T := T_Md) k_Md_253 im_Md_allHurt se_Md_allHurt rfl (by decide) rfl (by decide) d_Md_told_80 hM.1 (c_Md_allHurt0 hM (by exact hF 0 (by decide))) rfl (Nat.le_of_ble_eq_true rfl) (by omega) (by omega) (by omega) (fun v' S' I' J' hq => ?_)
          obtain ⟨rfl, rfl, rfl, rfl⟩ := hq
          exact r_iret d_Md_told_83 rfl (by omega) (by omega) (by rw [a_Md_told, if_neg e1, if_neg e2, if_neg e3, if_pos e4])
        · by_cases e5 : x = 4
          · refine r_tableIn (pc := 1) (off := 83) (tgt := 84) d_Md_told_1 (by rw [e5]; decide) (by rw [e5]; decide) (by rw [e5]; decide +kernel) (by decide) ?_
            refine lda_n_2_0 (pc := 84) d_Md_told_84 ?_
            refine r_callV (pc := 85) (As := []) (k := 9) (N := 56) (T := T_Md) k_Md_256 im_Md_allDone se_Md_allDone rfl (by decide) rfl (by decide) d_Md_told_85 hM.1 (c_Md_allDone0 hM (by exact hF 0 (by decide))) rfl (Nat.le_of_ble_eq_true rfl) (by omega) (by omega) (by omega) (fun v' S' I' J' hq => ?_)
            obtain ⟨rfl, rfl, rfl, rfl⟩ := hq
            exact r_iret d_Md_told_88 rfl (by omega) (by omega) (by rw [a_Md_told, if_neg e1, if_neg e2, if_neg e3, if_neg e4, if_pos e5])
          · by_cases e6 : x = 5
            · refine r_tableIn (pc := 1) (off := 88) (tgt := 89) d_Md_told_1 (by rw [e6]; decide) (by rw [e6]; decide) (by rw [e6]; decide +kernel) (by decide) ?_
              refine lda_n_2_0 (pc := 89) d_Md_told_89 ?_
              refine r_callV (pc := 90) (As := []) (k := 9) (N := 56) (T := T_Md) k_Md_244 im_Md_todays se_Md_todays rfl (by decide) rfl (by decide) d_Md_told_90 hM.1 (c_Md_todays0 hM (by exact hF 8 (by decide)) (by exact hh)) rfl (Nat.le_of_ble_eq_true rfl) (by omega) (by omega) (by omega) (fun v' S' I' J' hq => ?_)
              obtain ⟨rfl, rfl, rfl, rfl⟩ := hq
              exact r_iret d_Md_told_93 rfl (by omega) (by omega) (by rw [a_Md_told, if_neg e1, if_neg e2, if_neg e3, if_neg e4, if_neg e5, if_pos e6])
            · by_cases e7 : x = 6
              · refine r_tableIn (pc := 1) (off := 93) (tgt := 94) d_Md_told_1 (by rw [e7]; decide) (by rw [e7]; decide) (by rw [e7]; decide +kernel) (by decide) ?_
                refine lda_n_2_0 (pc := 94) d_Md_told_94 ?_
                refine r_callV (pc := 95) (As := []) (k := 9) (N := 56) (T := T_Md) k_Md_259 im_Md_agreed se_Md_agreed rfl (by decide) rfl (by decide) d_Md_told_95 hM.1 (c_Md_agreed0 hM (by exact hF 0 (by decide)) ) rfl (Nat.le_of_ble_eq_true rfl) (by omega) (by omega) (by omega) (fun v' S' I5k J' hq => ?_)
                obtain ⟨rfl, rfl, hI5k, rfl⟩ := hq
                exact r_iret d_Md_told_98 rfl (by omega) (by omega) (by rw [a_Md_told, if_neg e1, if_neg e2, if_neg e3, if_neg e4, if_neg e5, if_neg e6, if_pos e7])
              · by_cases e8 : x = 7
                · refine r_tableIn (pc := 1) (off := 98) (tgt := 99) d_Md_told_1 (by rw [e8]; decide) (by rw [e8]; decide) (by rw [e8]; decide +kernel) (by decide) ?_
                  refine lda_n_2_0 (pc := 99) d_Md_told_99 ?_
                  refine r_iconst (pc := 100) (v := 0) d_Md_told_100 rfl ?_
                  refine r_callV (pc := 101) (As := [.int 0]) (k := 9) (N := 56) (T := T_Md) k_Md_262 im_Md_dear se_Md_dear rfl (by decide) rfl (by decide) d_Md_told_101 hM.1 (c_Md_dear0 hM (by exact hF 0 (by decide)) ) rfl (Nat.le_of_ble_eq_true rfl) (by omega) (by omega) (by omega) (fun v' S' I6k J' hq => ?_)
                  obtain ⟨rfl, rfl, hI6k, rfl⟩ := hq
                  exact r_iret d_Md_told_104 rfl (by omega) (by omega) (by rw [a_Md_told, if_neg e1, if_neg e2, if_neg e3, if_neg e4, if_neg e5, if_neg e6, if_neg e7, if_pos e8])
                · by_cases e9 : x = 8
                  · refine r_tableIn (pc := 1) (off := 104) (tgt := 105) d_Md_told_1 (by rw [e9]; decide) (by rw [e9]; decide) (by rw [e9]; decide +kernel) (by decide) ?_
                    refine lda_n_2_0 (pc := 105) d_Md_told_105 ?_
                    refine r_iconst (pc := 106) (v := 1) d_Md_told_106 rfl ?_
                    refine r_callV (pc := 107) (As := [.int 1]) (k := 9) (N := 56) (T := T_Md) k_Md_262 im_Md_dear se_Md_dear rfl (by decide) rfl (by decide) d_Md_told_107 hM.1 (c_Md_dear0 hM (by exact hF 0 (by decide)) ) rfl (Nat.le_of_ble_eq_true rfl) (by omega) (by omega) (by omega) (fun v' S' I7k J' hq => ?_)
                    obtain ⟨rfl, rfl, hI7k, rfl⟩ := hq
                    exact r_iret d_Md_told_110 rfl (by omega) (by omega) (by rw [a_Md_told, if_neg e1, if_neg e2, if_neg e3, if_neg e4, if_neg e5, if_neg e6, if_neg e7, if_neg e8, if_pos e9])
                  · refine r_tableOut (pc := 1) (tgt := 111) d_Md_told_1 (by simp only [← Int32.toInt_inj, Int32.reduceToInt] at e1 e2 e3 e4 e5 e6 e7 e8 e9; omega) (by decide) ?_
                    refine r_iconst (pc := 111) (v := (-1)) d_Md_told_111 rfl ?_
                    exact r_iret d_Md_told_112 rfl (by omega) (by omega) (by rw [a_Md_told, if_neg e1, if_neg e2, if_neg e3, if_neg e4, if_neg e5, if_neg e6, if_neg e7, if_neg e8, if_neg e9])
def a_Md_turn (p : Int32) : Int32 := (-1)
theorem k_Md_turn {p : Int32} (hM : isMd S) (hF : ∀ j, j ≠ 18 → I 114 j = 0) (hh : I 114 18 = -1) : qMet E y_Md_turn b_Md_turn 4 (some .int) 2 0 0 [.ref (qb E + 114), .int p] S I J (fun r S' I' J' => r = some (.int (a_Md_turn p))) := by
  refine qMet.of (L := [some (.ref (qb E + 114)), some (.int p), none, none]) (by decide +kernel) (Nat.le_of_ble_eq_true rfl) rfl ?_
  refine lda_n_4_0 (pc := 0) d_Md_turn_0 ?_
  refine ldi_n_4_1 (pc := 1) d_Md_turn_1 ?_
  refine r_callV (pc := 2) (As := [.int p]) (k := 9) (N := 56) (T := T_Md) k_Md_127 im_Md_isOne se_Md_isOne rfl (by decide) rfl (by decide) d_Md_turn_2 hM.1 (c_Md_isOne0 hM (by exact hF 0 (by decide))) rfl (Nat.le_of_ble_eq_true rfl) (by omega) (by omega) (by omega) (fun v' S' I' J' hq => ?_)
  obtain ⟨rfl, rfl, rfl, rfl⟩ := hq
  refine r_if_ne (pc := 5) (tgt := 10) d_Md_turn_5 (by decide) (fun c => absurd (by decide) c) (fun _ => ?_)
  refine r_iconst (pc := 8) (v := (-1)) d_Md_turn_8 rfl ?_
  exact r_iret d_Md_turn_9 rfl (by omega) (by omega) rfl
def a_Md_empty  : Int32 := 0
theorem k_Md_empty  (hM : isMd S) (hF : ∀ j, j ≠ 18 → I 114 j = 0) (hh : I 114 18 = -1) : qMet E y_Md_empty b_Md_empty 3 (some .int) 1 0 0 [.ref (qb E + 114)] S I J (fun r S' I' J' => r = some (.int (a_Md_empty))) := by
  refine qMet.of (L := [some (.ref (qb E + 114)), none, none]) (by decide +kernel) (Nat.le_of_ble_eq_true rfl) rfl ?_
  refine lda_n_3_0 (pc := 0) d_Md_empty_0 ?_
  refine lda_n_3_0 (pc := 1) d_Md_empty_1 ?_
  refine g_Md_88 (pc := 2) rfl d_Md_empty_2 (hM.1) (hM.r 25 rfl) ?_
  refine r_callV (pc := 5) (As := [.ref (qb E + 140)]) (k := 9) (N := 56) (T := T_Md) k_Md_265 im_Md_keep se_Md_keep rfl (by decide) rfl (by decide) d_Md_empty_5 hM.1 (c_Md_keep0 hM (hM.a 25 rfl)) rfl (Nat.le_of_ble_eq_true rfl) (by omega) (by omega) (by omega) (fun v' S' I1p J' hq => ?_)
  obtain ⟨rfl, rfl, hI1p, rfl⟩ := hq
  refine r_bipush (pc := 8) (v := (-5)) d_Md_empty_8 rfl ?_
  refine sti_n_3_1 (pc := 10) d_Md_empty_10 rfl ?_
  refine r_iconst (pc := 11) (v := 0) d_Md_empty_11 rfl ?_
  refine sti_n_3_2 (pc := 12) d_Md_empty_12 rfl ?_
  refine ldi_n_3_2 (pc := 13) d_Md_empty_13 ?_
  refine r_bipush (pc := 14) (v := 61) d_Md_empty_14 rfl ?_
  refine r_icmp_ge (pc := 16) (tgt := 52) d_Md_empty_16 (by decide) (fun c => absurd c (by decide)) (fun _ => ?_)
  refine ldi_n_3_1 (pc := 19) d_Md_empty_19 ?_
  refine r_bipush (pc := 20) (v := (-5)) d_Md_empty_20 rfl ?_
  refine r_icmp_ne (pc := 22) (tgt := 52) d_Md_empty_22 (by decide) (fun c => absurd (by decide) c) (fun _ => ?_)
  refine ldi_n_3_2 (pc := 25) d_Md_empty_25 ?_
  refine r_if_le (pc := 26) (tgt := 33) d_Md_empty_26 (by decide) (fun _ => ?_) (fun c => absurd (by decide) c)
  refine lda_n_3_0 (pc := 33) d_Md_empty_33 ?_
  refine r_callV (pc := 34) (As := []) (k := 9) (N := 56) (T := T_Md) k_Md_256 im_Md_allDone se_Md_allDone rfl (by decide) rfl (by decide) d_Md_empty_34 hM.1 (c_Md_allDone0 hM (by rw [hI1p 114 (by decide)]; exact hF 0 (by decide))) rfl (Nat.le_of_ble_eq_true rfl) (by omega) (by omega) (by omega) (fun v' S' I' J' hq => ?_)
  obtain ⟨rfl, rfl, rfl, rfl⟩ := hq
  refine lda_n_3_0 (pc := 37) d_Md_empty_37 ?_
  refine g_Md_117 (pc := 38) rfl d_Md_empty_38 (hM.1) ?_
  refine r_top (v := 0) (by rw [hI1p 114 (by decide)]; exact hF 0 (by decide)) ?_
  refine r_icmp_ne (pc := 41) (tgt := 46) d_Md_empty_41 (by decide) (fun c => absurd (by decide) c) (fun _ => ?_)
  refine ldi_n_3_2 (pc := 44) d_Md_empty_44 ?_
  refine sti_n_3_1 (pc := 45) d_Md_empty_45 rfl ?_
  refine inc_3_2 (pc := 46) (w := 1) d_Md_empty_46 rfl rfl ?_
  rw [show (0 : Int32) + 1 = 1 from by decide]
  refine r_goto (pc := 49) (tgt := 13) d_Md_empty_49 (by decide) ?_
  refine ldi_n_3_2 (pc := 13) d_Md_empty_13 ?_
  refine r_bipush (pc := 14) (v := 61) d_Md_empty_14 rfl ?_
  refine r_icmp_ge (pc := 16) (tgt := 52) d_Md_empty_16 (by decide) (fun c => absurd c (by decide)) (fun _ => ?_)
  refine ldi_n_3_1 (pc := 19) d_Md_empty_19 ?_
  refine r_bipush (pc := 20) (v := (-5)) d_Md_empty_20 rfl ?_
  refine r_icmp_ne (pc := 22) (tgt := 52) d_Md_empty_22 (by decide) (fun _ => ?_) (fun c => absurd c (by decide))
  refine lda_n_3_0 (pc := 52) d_Md_empty_52 ?_
  refine lda_n_3_0 (pc := 53) d_Md_empty_53 ?_
  refine g_Md_88 (pc := 54) rfl d_Md_empty_54 (hM.1) (hM.r 25 rfl) ?_
  refine r_callV (pc := 57) (As := [.ref (qb E + 140)]) (k := 9) (N := 56) (T := T_Md) k_Md_269 im_Md_again se_Md_again rfl (by decide) rfl (by decide) d_Md_empty_57 hM.1 (c_Md_again0 hM (hM.a 25 rfl)) rfl (Nat.le_of_ble_eq_true rfl) (by omega) (by omega) (by omega) (fun v' S' I2p J' hq => ?_)
  obtain ⟨rfl, rfl, hI2p, rfl⟩ := hq
  refine ldi_n_3_1 (pc := 60) d_Md_empty_60 ?_
  exact r_iret d_Md_empty_61 rfl (by omega) (by omega) rfl
def a_Md_best (x : Int32) (k : Int32) : Int32 := (if (qwithin x 0 1) = 0 then (-1) else (if (qwithin k (-1) 5) = 0 then (-1) else (if x = 1 then (if k = (-1) then 0 else (-5)) else (if k = (-1) then 0 else (-5)))))
theorem k_Md_best {x k : Int32} (hM : isMd S) (hF : ∀ j, j ≠ 18 → I 114 j = 0) (hh : I 114 18 = -1) : qMet E y_Md_best b_Md_best 3 (some .int) 2 0 0 [.ref (qb E + 114), .int x, .int k] S I J (fun r S' I' J' => r = some (.int (a_Md_best x k))) := by
  refine qMet.of (L := [some (.ref (qb E + 114)), some (.int x), some (.int k)]) (by decide +kernel) (Nat.le_of_ble_eq_true rfl) rfl ?_
  refine ldi_n_3_1 (pc := 0) d_Md_best_0 ?_
  refine r_iconst (pc := 1) (v := 0) d_Md_best_1 rfl ?_
  refine r_iconst (pc := 2) (v := 1) d_Md_best_2 rfl ?_
  refine r_callS (pc := 3) (As := [.int x, .int 0, .int 1]) k_Md_120 sw_Md_within rfl (by decide) d_Md_best_3 (c_Md_within _ _ _) rfl (Nat.le_of_ble_eq_true rfl) (by omega) (by omega) (by omega) (fun v' S' I' J' hq => ?_)
  obtain ⟨rfl, rfl, rfl, rfl⟩ := hq
  refine r_if_eq (pc := 6) (tgt := 18) d_Md_best_6 (by decide) (fun c1 => ?_) (fun c1 => ?_)
  · refine r_iconst (pc := 18) (v := (-1)) d_Md_best_18 rfl ?_
    exact r_iret d_Md_best_19 rfl (by omega) (by omega) (by rw [a_Md_best, if_pos c1])
  · refine ldi_n_3_2 (pc := 9) d_Md_best_9 ?_
    refine r_iconst (pc := 10) (v := (-1)) d_Md_best_10 rfl ?_
    refine r_iconst (pc := 11) (v := 5) d_Md_best_11 rfl ?_
    refine r_callS (pc := 12) (As := [.int k, .int (-1), .int 5]) k_Md_120 sw_Md_within rfl (by decide) d_Md_best_12 (c_Md_within _ _ _) rfl (Nat.le_of_ble_eq_true rfl) (by omega) (by omega) (by omega) (fun v' S' I' J' hq => ?_)
    obtain ⟨rfl, rfl, rfl, rfl⟩ := hq
    refine r_if_ne (pc := 15) (tgt := 20) d_Md_best_15 (by decide) (fun c2 => ?_) (fun c2 => ?_)
    · refine lda_n_3_0 (pc := 20) d_Md_best_20 ?_
      refine ldi_n_3_1 (pc := 21) d_Md_best_21 ?_
      refine r_iconst (pc := 22) (v := 1) d_Md_best_22 rfl ?_
      refine r_icmp_ne (pc := 23) (tgt := 30) d_Md_best_23 (by decide) (fun c3 => ?_) (fun c3 => ?_)
      · refine r_iconst (pc := 30) (v := 0) d_Md_best_30 rfl ?_
        refine r_iconst (pc := 31) (v := 0) d_Md_best_31 rfl ?_
        refine r_callV (pc := 32) (As := [.int 0, .int 0]) (k := 9) (N := 56) (T := T_Md) k_Md_307 im_Md_allWays se_Md_allWays rfl (by decide) rfl (by decide) d_Md_best_32 hM.1 (c_Md_allWays0 hM (by exact hF 0 (by decide)) (by first | exact Or.inl rfl | exact Or.inr rfl) (by decide)) rfl (Nat.le_of_ble_eq_true rfl) (by omega) (by omega) (by omega) (fun v' S' I8k J8k hq => ?_)
        obtain ⟨rfl, rfl, hI8k, hJ8k⟩ := hq
        refine ldi_n_3_2 (pc := 35) d_Md_best_35 ?_
        refine r_iconst (pc := 36) (v := (-1)) d_Md_best_36 rfl ?_
        refine r_icmp_ne (pc := 37) (tgt := 48) d_Md_best_37 (by decide) (fun c4 => ?_) (fun c4 => ?_)
        · refine ldi_n_3_2 (pc := 48) d_Md_best_48 ?_
          refine lda_n_3_0 (pc := 49) d_Md_best_49 ?_
          refine g_Md_272 (pc := 50) rfl d_Md_best_50 (hM.1) ?_
          refine r_top (v := 0) (by rw [hI8k, qup_j (by decide), qup_at]) ?_
          refine r_icmp_ge (pc := 53) (tgt := 65) d_Md_best_53 (by decide) (fun _ => ?_) (fun c => absurd (qk_nn (by assumption) (by assumption)) c)
          refine r_bipush (pc := 65) (v := (-5)) d_Md_best_65 rfl ?_
          exact r_iret d_Md_best_67 rfl (by omega) (by omega) (by rw [a_Md_best, if_neg c1, if_neg c2, if_neg c3, if_neg c4])
        · refine lda_n_3_0 (pc := 40) d_Md_best_40 ?_
          refine g_Md_292 (pc := 41) rfl d_Md_best_41 (hM.1) ?_
          refine r_topJ (v := 0) (by rw [hJ8k, qup_at]) ?_
          refine r_l2i (pc := 44) d_Md_best_44 ?_
          refine r_top (v := 0) (by decide) ?_
          refine r_goto (pc := 45) (tgt := 67) d_Md_best_45 (by decide) ?_
          exact r_iret d_Md_best_67 rfl (by omega) (by omega) (by rw [a_Md_best, if_neg c1, if_neg c2, if_neg c3, if_pos c4])
      · refine r_iconst (pc := 26) (v := 1) d_Md_best_26 rfl ?_
        refine r_goto (pc := 27) (tgt := 31) d_Md_best_27 (by decide) ?_
        refine r_iconst (pc := 31) (v := 0) d_Md_best_31 rfl ?_
        refine r_callV (pc := 32) (As := [.int 1, .int 0]) (k := 9) (N := 56) (T := T_Md) k_Md_307 im_Md_allWays se_Md_allWays rfl (by decide) rfl (by decide) d_Md_best_32 hM.1 (c_Md_allWays0 hM (by exact hF 0 (by decide)) (by first | exact Or.inl rfl | exact Or.inr rfl) (by decide)) rfl (Nat.le_of_ble_eq_true rfl) (by omega) (by omega) (by omega) (fun v' S' I9k J9k hq => ?_)
        obtain ⟨rfl, rfl, hI9k, hJ9k⟩ := hq
        refine ldi_n_3_2 (pc := 35) d_Md_best_35 ?_
        refine r_iconst (pc := 36) (v := (-1)) d_Md_best_36 rfl ?_
        refine r_icmp_ne (pc := 37) (tgt := 48) d_Md_best_37 (by decide) (fun c5 => ?_) (fun c5 => ?_)
        · refine ldi_n_3_2 (pc := 48) d_Md_best_48 ?_
          refine lda_n_3_0 (pc := 49) d_Md_best_49 ?_
          refine g_Md_272 (pc := 50) rfl d_Md_best_50 (hM.1) ?_
          refine r_top (v := 0) (by rw [hI9k, qup_j (by decide), qup_at]) ?_
          refine r_icmp_ge (pc := 53) (tgt := 65) d_Md_best_53 (by decide) (fun _ => ?_) (fun c => absurd (qk_nn (by assumption) (by assumption)) c)
          refine r_bipush (pc := 65) (v := (-5)) d_Md_best_65 rfl ?_
          exact r_iret d_Md_best_67 rfl (by omega) (by omega) (by rw [a_Md_best, if_neg c1, if_neg c2, if_pos c3, if_neg c5])
        · refine lda_n_3_0 (pc := 40) d_Md_best_40 ?_
          refine g_Md_292 (pc := 41) rfl d_Md_best_41 (hM.1) ?_
          refine r_topJ (v := 0) (by rw [hJ9k, qup_at]) ?_
          refine r_l2i (pc := 44) d_Md_best_44 ?_
          refine r_top (v := 0) (by decide) ?_
          refine r_goto (pc := 45) (tgt := 67) d_Md_best_45 (by decide) ?_
          exact r_iret d_Md_best_67 rfl (by omega) (by omega) (by rw [a_Md_best, if_neg c1, if_neg c2, if_pos c3, if_pos c5])
    · refine r_iconst (pc := 18) (v := (-1)) d_Md_best_18 rfl ?_
      exact r_iret d_Md_best_19 rfl (by omega) (by omega) (by rw [a_Md_best, if_neg c1, if_pos c2])
def a_Md_see (p : Int32) (x : Int32) (n : Int32) : Int32 := (if p = (-1) then 0 else (-1))
theorem k_Md_see {p x n : Int32} (hM : isMd S) (hF : ∀ j, j ≠ 18 → I 114 j = 0) (hh : I 114 18 = -1) : qMet E y_Md_see b_Md_see 4 (some .int) 2 0 0 [.ref (qb E + 114), .int p, .int x, .int n] S I J (fun r S' I' J' => r = some (.int (a_Md_see p x n))) := by
  refine qMet.of (L := [some (.ref (qb E + 114)), some (.int p), some (.int x), some (.int n)]) (by decide +kernel) (Nat.le_of_ble_eq_true rfl) rfl ?_
  refine ldi_n_4_1 (pc := 0) d_Md_see_0 ?_
  refine r_iconst (pc := 1) (v := (-1)) d_Md_see_1 rfl ?_
  refine r_icmp_ne (pc := 2) (tgt := 12) d_Md_see_2 (by decide) (fun c1 => ?_) (fun c1 => ?_)
  · refine lda_n_4_0 (pc := 12) d_Md_see_12 ?_
    refine ldi_n_4_1 (pc := 13) d_Md_see_13 ?_
    refine r_callV (pc := 14) (As := [.int p]) (k := 9) (N := 56) (T := T_Md) k_Md_127 im_Md_isOne se_Md_isOne rfl (by decide) rfl (by decide) d_Md_see_14 hM.1 (c_Md_isOne0 hM (by exact hF 0 (by decide))) rfl (Nat.le_of_ble_eq_true rfl) (by omega) (by omega) (by omega) (fun v' S' I' J' hq => ?_)
    obtain ⟨rfl, rfl, rfl, rfl⟩ := hq
    refine r_if_ne (pc := 17) (tgt := 22) d_Md_see_17 (by decide) (fun c => absurd (by decide) c) (fun _ => ?_)
    refine r_iconst (pc := 20) (v := (-1)) d_Md_see_20 rfl ?_
    exact r_iret d_Md_see_21 rfl (by omega) (by omega) (by rw [a_Md_see, if_neg c1])
  · refine lda_n_4_0 (pc := 5) d_Md_see_5 ?_
    refine r_iconst (pc := 6) (v := 0) d_Md_see_6 rfl ?_
    refine p_Md_314 (pc := 7) rfl d_Md_see_7 (hM.1) ?_
    refine r_nmI (fun I3 hI2 => ?_)
    refine r_iconst (pc := 10) (v := 0) d_Md_see_10 rfl ?_
    exact r_iret d_Md_see_11 rfl (by omega) (by omega) (by rw [a_Md_see, if_pos c1])
def a_Md_can (p : Int32) (x : Int32) (y : Int32) : Int32 := (-1)
theorem k_Md_can {p x y : Int32} (hM : isMd S) (hF : ∀ j, j ≠ 18 → I 114 j = 0) (hh : I 114 18 = -1) : qMet E y_Md_can b_Md_can 8 (some .int) 2 0 0 [.ref (qb E + 114), .int p, .int x, .int y] S I J (fun r S' I' J' => r = some (.int (a_Md_can p x y))) := by
  refine qMet.of (L := [some (.ref (qb E + 114)), some (.int p), some (.int x), some (.int y), none, none, none, none]) (by decide +kernel) (Nat.le_of_ble_eq_true rfl) rfl ?_
  refine lda_n_8_0 (pc := 0) d_Md_can_0 ?_
  refine ldi_n_8_1 (pc := 1) d_Md_can_1 ?_
  refine r_callV (pc := 2) (As := [.int p]) (k := 9) (N := 56) (T := T_Md) k_Md_127 im_Md_isOne se_Md_isOne rfl (by decide) rfl (by decide) d_Md_can_2 hM.1 (c_Md_isOne0 hM (by exact hF 0 (by decide))) rfl (Nat.le_of_ble_eq_true rfl) (by omega) (by omega) (by omega) (fun v' S' I' J' hq => ?_)
  obtain ⟨rfl, rfl, rfl, rfl⟩ := hq
  refine r_if_eq (pc := 5) (tgt := 26) d_Md_can_5 (by decide) (fun _ => ?_) (fun c => absurd (by decide) c)
  refine r_iconst (pc := 26) (v := (-1)) d_Md_can_26 rfl ?_
  exact r_iret d_Md_can_27 rfl (by omega) (by omega) rfl
theorem c_Md_part11 {p : Int32} : qMet E y_Md_part b_Md_part 11 (some .long) 0 0 0 [.long 1, .long 1, .int p] S I J (qPl S I J (if p = 0 then 1 else 1)) := by
  refine qMet.of (L := [some (.long 1), none, some (.long 1), none, some (.int p), none, none, none, none, none, none]) (by decide +kernel) (Nat.le_of_ble_eq_true rfl) rfl ?_
  refine ldl_n_11_0 (pc := 0) d_Md_part_0 ?_
  refine stl_11_5 (pc := 1) d_Md_part_1 rfl ?_
  refine ldl_n_11_2 (pc := 3) d_Md_part_3 ?_
  refine stl_11_7 (pc := 4) d_Md_part_4 rfl ?_
  refine ldl_11_7 (pc := 6) d_Md_part_6 ?_
  refine r_lconst (pc := 8) (v := 0) d_Md_part_8 rfl ?_
  refine r_lcmp (pc := 9) d_Md_part_9 ?_
  refine r_top (v := 1) (by decide) ?_
  refine r_if_eq (pc := 10) (tgt := 31) d_Md_part_10 (by decide) (fun c => absurd c (by decide)) (fun _ => ?_)
  refine ldl_11_5 (pc := 13) d_Md_part_13 ?_
  refine ldl_11_7 (pc := 15) d_Md_part_15 ?_
  refine r_lrem (pc := 17) d_Md_part_17 (by decide) ?_
  refine r_topJ (v := 0) (by decide) ?_
  refine stl_11_9 (pc := 18) d_Md_part_18 rfl ?_
  refine ldl_11_7 (pc := 20) d_Md_part_20 ?_
  refine stl_11_5 (pc := 22) d_Md_part_22 rfl ?_
  refine ldl_11_9 (pc := 24) d_Md_part_24 ?_
  refine stl_11_7 (pc := 26) d_Md_part_26 rfl ?_
  refine r_goto (pc := 28) (tgt := 6) d_Md_part_28 (by decide) ?_
  refine ldl_11_7 (pc := 6) d_Md_part_6 ?_
  refine r_lconst (pc := 8) (v := 0) d_Md_part_8 rfl ?_
  refine r_lcmp (pc := 9) d_Md_part_9 ?_
  refine r_top (v := 0) (by decide) ?_
  refine r_if_eq (pc := 10) (tgt := 31) d_Md_part_10 (by decide) (fun _ => ?_) (fun c => absurd (by decide) c)
  refine ldi_11_4 (pc := 31) d_Md_part_31 ?_
  refine r_if_ne (pc := 33) (tgt := 43) d_Md_part_33 (by decide) (fun c1 => ?_) (fun c1 => ?_)
  · refine ldl_n_11_2 (pc := 43) d_Md_part_43 ?_
    refine ldl_11_5 (pc := 44) d_Md_part_44 ?_
    refine r_ldiv (pc := 46) d_Md_part_46 (by decide) ?_
    refine r_topJ (v := 1) (by decide) ?_
    exact r_lret d_Md_part_47 rfl (by omega) (by omega) ⟨(by rw [if_neg c1]), rfl, rfl, rfl⟩
  · refine ldl_n_11_0 (pc := 36) d_Md_part_36 ?_
    refine ldl_11_5 (pc := 37) d_Md_part_37 ?_
    refine r_ldiv (pc := 39) d_Md_part_39 (by decide) ?_
    refine r_topJ (v := 1) (by decide) ?_
    refine r_goto (pc := 40) (tgt := 47) d_Md_part_40 (by decide) ?_
    exact r_lret d_Md_part_47 rfl (by omega) (by omega) ⟨(by rw [if_pos c1]), rfl, rfl, rfl⟩
theorem c_Md_part01 {p : Int32} : qMet E y_Md_part b_Md_part 11 (some .long) 0 0 0 [.long 0, .long 1, .int p] S I J (qPl S I J (if p = 0 then 0 else 1)) := by
  refine qMet.of (L := [some (.long 0), none, some (.long 1), none, some (.int p), none, none, none, none, none, none]) (by decide +kernel) (Nat.le_of_ble_eq_true rfl) rfl ?_
  refine ldl_n_11_0 (pc := 0) d_Md_part_0 ?_
  refine stl_11_5 (pc := 1) d_Md_part_1 rfl ?_
  refine ldl_n_11_2 (pc := 3) d_Md_part_3 ?_
  refine stl_11_7 (pc := 4) d_Md_part_4 rfl ?_
  refine ldl_11_7 (pc := 6) d_Md_part_6 ?_
  refine r_lconst (pc := 8) (v := 0) d_Md_part_8 rfl ?_
  refine r_lcmp (pc := 9) d_Md_part_9 ?_
  refine r_top (v := 1) (by decide) ?_
  refine r_if_eq (pc := 10) (tgt := 31) d_Md_part_10 (by decide) (fun c => absurd c (by decide)) (fun _ => ?_)
  refine ldl_11_5 (pc := 13) d_Md_part_13 ?_
  refine ldl_11_7 (pc := 15) d_Md_part_15 ?_
  refine r_lrem (pc := 17) d_Md_part_17 (by decide) ?_
  refine r_topJ (v := 0) (by decide) ?_
  refine stl_11_9 (pc := 18) d_Md_part_18 rfl ?_
  refine ldl_11_7 (pc := 20) d_Md_part_20 ?_
  refine stl_11_5 (pc := 22) d_Md_part_22 rfl ?_
  refine ldl_11_9 (pc := 24) d_Md_part_24 ?_
  refine stl_11_7 (pc := 26) d_Md_part_26 rfl ?_
  refine r_goto (pc := 28) (tgt := 6) d_Md_part_28 (by decide) ?_
  refine ldl_11_7 (pc := 6) d_Md_part_6 ?_
  refine r_lconst (pc := 8) (v := 0) d_Md_part_8 rfl ?_
  refine r_lcmp (pc := 9) d_Md_part_9 ?_
  refine r_top (v := 0) (by decide) ?_
  refine r_if_eq (pc := 10) (tgt := 31) d_Md_part_10 (by decide) (fun _ => ?_) (fun c => absurd (by decide) c)
  refine ldi_11_4 (pc := 31) d_Md_part_31 ?_
  refine r_if_ne (pc := 33) (tgt := 43) d_Md_part_33 (by decide) (fun c1 => ?_) (fun c1 => ?_)
  · refine ldl_n_11_2 (pc := 43) d_Md_part_43 ?_
    refine ldl_11_5 (pc := 44) d_Md_part_44 ?_
    refine r_ldiv (pc := 46) d_Md_part_46 (by decide) ?_
    refine r_topJ (v := 1) (by decide) ?_
    exact r_lret d_Md_part_47 rfl (by omega) (by omega) ⟨(by rw [if_neg c1]), rfl, rfl, rfl⟩
  · refine ldl_n_11_0 (pc := 36) d_Md_part_36 ?_
    refine ldl_11_5 (pc := 37) d_Md_part_37 ?_
    refine r_ldiv (pc := 39) d_Md_part_39 (by decide) ?_
    refine r_topJ (v := 0) (by decide) ?_
    refine r_goto (pc := 40) (tgt := 47) d_Md_part_40 (by decide) ?_
    exact r_lret d_Md_part_47 rfl (by omega) (by omega) ⟨(by rw [if_pos c1]), rfl, rfl, rfl⟩
def a_Md_odds (q : Int32) (p : Int32) : Int64 := (if (qwithin q 0 9999) = 0 then (-9223372036854775808) else (if (qwithin p 0 1) = 0 then (-9223372036854775808) else (if p = 0 then 1 else 1)))
theorem k_Md_odds {q p : Int32} (hM : isMd S) (hF : ∀ j, j ≠ 18 → I 114 j = 0) (hh : I 114 18 = -1) : qMet E y_Md_odds b_Md_odds 3 (some .long) 2 0 0 [.ref (qb E + 114), .int q, .int p] S I J (fun r S' I' J' => r = some (.long (a_Md_odds q p))) := by
  refine qMet.of (L := [some (.ref (qb E + 114)), some (.int q), some (.int p)]) (by decide +kernel) (Nat.le_of_ble_eq_true rfl) rfl ?_
  refine ldi_n_3_1 (pc := 0) d_Md_odds_0 ?_
  refine r_iconst (pc := 1) (v := 0) d_Md_odds_1 rfl ?_
  refine r_sipush (pc := 2) (v := 9999) d_Md_odds_2 rfl ?_
  refine r_callS (pc := 5) (As := [.int q, .int 0, .int 9999]) k_Md_120 sw_Md_within rfl (by decide) d_Md_odds_5 (c_Md_within _ _ _) rfl (Nat.le_of_ble_eq_true rfl) (by omega) (by omega) (by omega) (fun v' S' I' J' hq => ?_)
  obtain ⟨rfl, rfl, rfl, rfl⟩ := hq
  refine r_if_eq (pc := 8) (tgt := 20) d_Md_odds_8 (by decide) (fun c1 => ?_) (fun c1 => ?_)
  · refine r_ldc2 (pc := 20) cl_Md_327 d_Md_odds_20 ?_
    exact r_lret d_Md_odds_23 rfl (by omega) (by omega) (by rw [a_Md_odds, if_pos c1])
  · refine ldi_n_3_2 (pc := 11) d_Md_odds_11 ?_
    refine r_iconst (pc := 12) (v := 0) d_Md_odds_12 rfl ?_
    refine r_iconst (pc := 13) (v := 1) d_Md_odds_13 rfl ?_
    refine r_callS (pc := 14) (As := [.int p, .int 0, .int 1]) k_Md_120 sw_Md_within rfl (by decide) d_Md_odds_14 (c_Md_within _ _ _) rfl (Nat.le_of_ble_eq_true rfl) (by omega) (by omega) (by omega) (fun v' S' I' J' hq => ?_)
    obtain ⟨rfl, rfl, rfl, rfl⟩ := hq
    refine r_if_ne (pc := 17) (tgt := 24) d_Md_odds_17 (by decide) (fun c2 => ?_) (fun c2 => ?_)
    · have hx0 := c1
      refine lda_n_3_0 (pc := 24) d_Md_odds_24 ?_
      refine r_iconst (pc := 25) (v := 0) d_Md_odds_25 rfl ?_
      refine ldi_n_3_1 (pc := 26) d_Md_odds_26 ?_
      refine r_callV (pc := 27) (As := [.int 0, .int q]) (k := 9) (N := 56) (T := T_Md) k_Md_307 im_Md_allWays se_Md_allWays rfl (by decide) rfl (by decide) d_Md_odds_27 hM.1 (c_Md_allWays0 hM (by exact hF 0 (by decide)) (by first | exact Or.inl rfl | exact Or.inr rfl) (qlg_nn hx0)) rfl (Nat.le_of_ble_eq_true rfl) (by omega) (by omega) (by omega) (fun v' S' I10k J10k hq => ?_)
      obtain ⟨rfl, rfl, hI10k, hJ10k⟩ := hq
      refine lda_n_3_0 (pc := 30) d_Md_odds_30 ?_
      refine g_Md_285 (pc := 31) rfl d_Md_odds_31 (hM.1) ?_
      refine r_topJ (v := 1) (by rw [hJ10k, qup_j (by decide), qup_at]) ?_
      refine lda_n_3_0 (pc := 34) d_Md_odds_34 ?_
      refine g_Md_275 (pc := 35) rfl d_Md_odds_35 (hM.1) ?_
      refine r_topJ (v := 1) (by rw [hJ10k, qup_j (by decide), qup_j (by decide), qup_j (by decide), qup_at]) ?_
      refine ldi_n_3_2 (pc := 38) d_Md_odds_38 ?_
      refine r_callS (pc := 39) (As := [.long 1, .long 1, .int p]) k_Md_329 sw_Md_part rfl (by decide) d_Md_odds_39 (c_Md_part11) rfl (Nat.le_of_ble_eq_true rfl) (by omega) (by omega) (by omega) (fun v' S' I' J' hq => ?_)
      obtain ⟨rfl, rfl, rfl, rfl⟩ := hq
      exact r_lret d_Md_odds_42 rfl (by omega) (by omega) (by rw [a_Md_odds, if_neg c1, if_neg c2])
    · refine r_ldc2 (pc := 20) cl_Md_327 d_Md_odds_20 ?_
      exact r_lret d_Md_odds_23 rfl (by omega) (by omega) (by rw [a_Md_odds, if_neg c1, if_pos c2])
def a_Md_mean (p : Int32) : Int64 := (if (qwithin p 0 1) = 0 then (-9223372036854775808) else (if p = 0 then 0 else 1))
theorem k_Md_mean {p : Int32} (hM : isMd S) (hF : ∀ j, j ≠ 18 → I 114 j = 0) (hh : I 114 18 = -1) : qMet E y_Md_mean b_Md_mean 2 (some .long) 2 0 0 [.ref (qb E + 114), .int p] S I J (fun r S' I' J' => r = some (.long (a_Md_mean p))) := by
  refine qMet.of (L := [some (.ref (qb E + 114)), some (.int p)]) (by decide +kernel) (Nat.le_of_ble_eq_true rfl) rfl ?_
  refine ldi_n_2_1 (pc := 0) d_Md_mean_0 ?_
  refine r_iconst (pc := 1) (v := 0) d_Md_mean_1 rfl ?_
  refine r_iconst (pc := 2) (v := 1) d_Md_mean_2 rfl ?_
  refine r_callS (pc := 3) (As := [.int p, .int 0, .int 1]) k_Md_120 sw_Md_within rfl (by decide) d_Md_mean_3 (c_Md_within _ _ _) rfl (Nat.le_of_ble_eq_true rfl) (by omega) (by omega) (by omega) (fun v' S' I' J' hq => ?_)
  obtain ⟨rfl, rfl, rfl, rfl⟩ := hq
  refine r_if_ne (pc := 6) (tgt := 13) d_Md_mean_6 (by decide) (fun c1 => ?_) (fun c1 => ?_)
  · refine lda_n_2_0 (pc := 13) d_Md_mean_13 ?_
    refine r_iconst (pc := 14) (v := 0) d_Md_mean_14 rfl ?_
    refine r_iconst (pc := 15) (v := 0) d_Md_mean_15 rfl ?_
    refine r_callV (pc := 16) (As := [.int 0, .int 0]) (k := 9) (N := 56) (T := T_Md) k_Md_307 im_Md_allWays se_Md_allWays rfl (by decide) rfl (by decide) d_Md_mean_16 hM.1 (c_Md_allWays0 hM (by exact hF 0 (by decide)) (by first | exact Or.inl rfl | exact Or.inr rfl) (by decide)) rfl (Nat.le_of_ble_eq_true rfl) (by omega) (by omega) (by omega) (fun v' S' I11k J11k hq => ?_)
    obtain ⟨rfl, rfl, hI11k, hJ11k⟩ := hq
    refine lda_n_2_0 (pc := 19) d_Md_mean_19 ?_
    refine g_Md_279 (pc := 20) rfl d_Md_mean_20 (hM.1) ?_
    refine r_topJ (v := 0) (by rw [hJ11k, qup_j (by decide), qup_j (by decide), qup_at]) ?_
    refine lda_n_2_0 (pc := 23) d_Md_mean_23 ?_
    refine g_Md_275 (pc := 24) rfl d_Md_mean_24 (hM.1) ?_
    refine r_topJ (v := 1) (by rw [hJ11k, qup_j (by decide), qup_j (by decide), qup_j (by decide), qup_at]) ?_
    refine ldi_n_2_1 (pc := 27) d_Md_mean_27 ?_
    refine r_callS (pc := 28) (As := [.long 0, .long 1, .int p]) k_Md_329 sw_Md_part rfl (by decide) d_Md_mean_28 (c_Md_part01) rfl (Nat.le_of_ble_eq_true rfl) (by omega) (by omega) (by omega) (fun v' S' I' J' hq => ?_)
    obtain ⟨rfl, rfl, rfl, rfl⟩ := hq
    exact r_lret d_Md_mean_31 rfl (by omega) (by omega) (by rw [a_Md_mean, if_neg c1])
  · refine r_ldc2 (pc := 9) cl_Md_327 d_Md_mean_9 ?_
    exact r_lret d_Md_mean_12 rfl (by omega) (by omega) (by rw [a_Md_mean, if_pos c1])
def a_Md_plan (x : Int32) (p : Int32) : Int32 := (if x = (-1) then 0 else (if (qwithin x 0 3) = 0 then (-1) else (if x ≤ 0 then (if x = 0 then 1 else 1) else (-1))))
theorem k_Md_plan {x p : Int32} (hM : isMd S) (hF : ∀ j, j ≠ 18 → I 114 j = 0) (hh : I 114 18 = -1) : qMet E y_Md_plan b_Md_plan 3 (some .int) 2 0 0 [.ref (qb E + 114), .int x, .int p] S I J (fun r S' I' J' => r = some (.int (a_Md_plan x p))) := by
  refine qMet.of (L := [some (.ref (qb E + 114)), some (.int x), some (.int p)]) (by decide +kernel) (Nat.le_of_ble_eq_true rfl) rfl ?_
  refine ldi_n_3_1 (pc := 0) d_Md_plan_0 ?_
  refine r_iconst (pc := 1) (v := (-1)) d_Md_plan_1 rfl ?_
  refine r_icmp_ne (pc := 2) (tgt := 12) d_Md_plan_2 (by decide) (fun c1 => ?_) (fun c1 => ?_)
  · refine ldi_n_3_1 (pc := 12) d_Md_plan_12 ?_
    refine r_iconst (pc := 13) (v := 0) d_Md_plan_13 rfl ?_
    refine r_iconst (pc := 14) (v := 3) d_Md_plan_14 rfl ?_
    refine r_callS (pc := 15) (As := [.int x, .int 0, .int 3]) k_Md_120 sw_Md_within rfl (by decide) d_Md_plan_15 (c_Md_within _ _ _) rfl (Nat.le_of_ble_eq_true rfl) (by omega) (by omega) (by omega) (fun v' S' I' J' hq => ?_)
    obtain ⟨rfl, rfl, rfl, rfl⟩ := hq
    refine r_if_eq (pc := 18) (tgt := 33) d_Md_plan_18 (by decide) (fun c2 => ?_) (fun c2 => ?_)
    · refine r_iconst (pc := 33) (v := (-1)) d_Md_plan_33 rfl ?_
      exact r_iret d_Md_plan_34 rfl (by omega) (by omega) (by rw [a_Md_plan, if_neg c1, if_pos c2])
    · refine ldi_n_3_1 (pc := 21) d_Md_plan_21 ?_
      refine r_if_le (pc := 22) (tgt := 35) d_Md_plan_22 (by decide) (fun c3 => ?_) (fun c3 => ?_)
      · refine lda_n_3_0 (pc := 35) d_Md_plan_35 ?_
        refine g_Md_333 (pc := 36) rfl d_Md_plan_36 (hM.1) ?_
        refine r_top (v := 0) (by exact hF 31 (by decide)) ?_
        refine r_bipush (pc := 39) (v := 10) d_Md_plan_39 rfl ?_
        refine r_icmp_ne (pc := 41) (tgt := 47) d_Md_plan_41 (by decide) (fun _ => ?_) (fun c => absurd c (by decide))
        refine lda_n_3_0 (pc := 47) d_Md_plan_47 ?_
        refine g_Md_70 (pc := 48) rfl d_Md_plan_48 (hM.1) (hM.r 19 rfl) ?_
        refine lda_n_3_0 (pc := 51) d_Md_plan_51 ?_
        refine g_Md_333 (pc := 52) rfl d_Md_plan_52 (hM.1) ?_
        refine r_top (v := 0) (by exact hF 31 (by decide)) ?_
        refine ldi_n_3_1 (pc := 55) d_Md_plan_55 ?_
        refine r_iast (pc := 56) d_Md_plan_56 (hM.a 19 rfl) (by first | assumption | exact vp_in_nI (by omega) (by omega) | (unfold vp_in; decide)) ?_
        refine r_nmI (fun I5 hI4 => ?_)
        refine lda_n_3_0 (pc := 57) d_Md_plan_57 ?_
        refine g_Md_73 (pc := 58) rfl d_Md_plan_58 (hM.1) (hM.r 20 rfl) ?_
        refine lda_n_3_0 (pc := 61) d_Md_plan_61 ?_
        refine r_dup (pc := 62) d_Md_plan_62 rfl ?_
        refine g_Md_333 (pc := 63) rfl d_Md_plan_63 (hM.1) ?_
        refine r_top (v := 0) (by rw [hI4, qup_o (by decide)]; exact hF 31 (by decide)) ?_
        refine r_dup_x1 (pc := 66) d_Md_plan_66 rfl rfl ?_
        refine r_iconst (pc := 67) (v := 1) d_Md_plan_67 rfl ?_
        refine r_iadd (pc := 68) d_Md_plan_68 ?_
        refine r_top (v := 1) (by decide) ?_
        refine p_Md_333 (pc := 69) rfl d_Md_plan_69 (hM.1) ?_
        refine r_nmI (fun I7 hI6 => ?_)
        refine ldi_n_3_1 (pc := 72) d_Md_plan_72 ?_
        refine r_if_ne (pc := 73) (tgt := 80) d_Md_plan_73 (by decide) (fun c8 => ?_) (fun c8 => ?_)
        · refine ldi_n_3_2 (pc := 80) d_Md_plan_80 ?_
          refine r_iast (pc := 81) d_Md_plan_81 (hM.a 20 rfl) (by first | assumption | exact vp_in_nI (by omega) (by omega) | (unfold vp_in; decide)) ?_
          refine r_nmI (fun I10 hI9 => ?_)
          refine lda_n_3_0 (pc := 82) d_Md_plan_82 ?_
          refine g_Md_333 (pc := 83) rfl d_Md_plan_83 (hM.1) ?_
          refine r_top (v := 1) (by rw [hI9, qup_o (by decide), hI6, qup_at]) ?_
          exact r_iret d_Md_plan_86 rfl (by omega) (by omega) (by rw [a_Md_plan, if_neg c1, if_neg c2, if_pos c3, if_neg c8])
        · refine r_iconst (pc := 76) (v := 0) d_Md_plan_76 rfl ?_
          refine r_goto (pc := 77) (tgt := 81) d_Md_plan_77 (by decide) ?_
          refine r_iast (pc := 81) d_Md_plan_81 (hM.a 20 rfl) (by first | assumption | exact vp_in_nI (by omega) (by omega) | (unfold vp_in; decide)) ?_
          refine r_nmI (fun I12 hI11 => ?_)
          refine lda_n_3_0 (pc := 82) d_Md_plan_82 ?_
          refine g_Md_333 (pc := 83) rfl d_Md_plan_83 (hM.1) ?_
          refine r_top (v := 1) (by rw [hI11, qup_o (by decide), hI6, qup_at]) ?_
          exact r_iret d_Md_plan_86 rfl (by omega) (by omega) (by rw [a_Md_plan, if_neg c1, if_neg c2, if_pos c3, if_pos c8])
      · refine lda_n_3_0 (pc := 25) d_Md_plan_25 ?_
        refine ldi_n_3_2 (pc := 26) d_Md_plan_26 ?_
        refine r_callV (pc := 27) (As := [.int p]) (k := 9) (N := 56) (T := T_Md) k_Md_127 im_Md_isOne se_Md_isOne rfl (by decide) rfl (by decide) d_Md_plan_27 hM.1 (c_Md_isOne0 hM (by exact hF 0 (by decide))) rfl (Nat.le_of_ble_eq_true rfl) (by omega) (by omega) (by omega) (fun v' S' I' J' hq => ?_)
        obtain ⟨rfl, rfl, rfl, rfl⟩ := hq
        refine r_if_ne (pc := 30) (tgt := 35) d_Md_plan_30 (by decide) (fun c => absurd (by decide) c) (fun _ => ?_)
        refine r_iconst (pc := 33) (v := (-1)) d_Md_plan_33 rfl ?_
        exact r_iret d_Md_plan_34 rfl (by omega) (by omega) (by rw [a_Md_plan, if_neg c1, if_neg c2, if_neg c3])
  · refine lda_n_3_0 (pc := 5) d_Md_plan_5 ?_
    refine r_iconst (pc := 6) (v := 0) d_Md_plan_6 rfl ?_
    refine p_Md_333 (pc := 7) rfl d_Md_plan_7 (hM.1) ?_
    refine r_nmI (fun I14 hI13 => ?_)
    refine r_iconst (pc := 10) (v := 0) d_Md_plan_10 rfl ?_
    exact r_iret d_Md_plan_11 rfl (by omega) (by omega) (by rw [a_Md_plan, if_pos c1])
def a_Md_ends (x : Int32) : Int32 := (if (qwithin x 0 1) = 0 then (-1) else (if x = 0 then 0 else 0))
theorem k_Md_ends {x : Int32} (hM : isMd S) (hF : ∀ j, j ≠ 18 → I 114 j = 0) (hh : I 114 18 = -1) : qMet E y_Md_ends b_Md_ends 4 (some .int) 1 0 0 [.ref (qb E + 114), .int x] S I J (fun r S' I' J' => r = some (.int (a_Md_ends x))) := by
  refine qMet.of (L := [some (.ref (qb E + 114)), some (.int x), none, none]) (by decide +kernel) (Nat.le_of_ble_eq_true rfl) rfl ?_
  refine ldi_n_4_1 (pc := 0) d_Md_ends_0 ?_
  refine r_iconst (pc := 1) (v := 0) d_Md_ends_1 rfl ?_
  refine r_iconst (pc := 2) (v := 1) d_Md_ends_2 rfl ?_
  refine r_callS (pc := 3) (As := [.int x, .int 0, .int 1]) k_Md_120 sw_Md_within rfl (by decide) d_Md_ends_3 (c_Md_within _ _ _) rfl (Nat.le_of_ble_eq_true rfl) (by omega) (by omega) (by omega) (fun v' S' I' J' hq => ?_)
  obtain ⟨rfl, rfl, rfl, rfl⟩ := hq
  refine r_if_ne (pc := 6) (tgt := 11) d_Md_ends_6 (by decide) (fun c1 => ?_) (fun c1 => ?_)
  · refine lda_n_4_0 (pc := 11) d_Md_ends_11 ?_
    refine lda_n_4_0 (pc := 12) d_Md_ends_12 ?_
    refine g_Md_88 (pc := 13) rfl d_Md_ends_13 (hM.1) (hM.r 25 rfl) ?_
    refine r_callV (pc := 16) (As := [.ref (qb E + 140)]) (k := 9) (N := 56) (T := T_Md) k_Md_265 im_Md_keep se_Md_keep rfl (by decide) rfl (by decide) d_Md_ends_16 hM.1 (c_Md_keep0 hM (hM.a 25 rfl)) rfl (Nat.le_of_ble_eq_true rfl) (by omega) (by omega) (by omega) (fun v' S' I3p J' hq => ?_)
    obtain ⟨rfl, rfl, hI3p, rfl⟩ := hq
    refine r_iconst (pc := 19) (v := 0) d_Md_ends_19 rfl ?_
    refine sti_n_4_2 (pc := 20) d_Md_ends_20 rfl ?_
    refine ldi_n_4_2 (pc := 21) d_Md_ends_21 ?_
    refine lda_n_4_0 (pc := 22) d_Md_ends_22 ?_
    refine g_Md_333 (pc := 23) rfl d_Md_ends_23 (hM.1) ?_
    refine r_top (v := 0) (by rw [hI3p 114 (by decide)]; exact hF 31 (by decide)) ?_
    refine r_icmp_ge (pc := 26) (tgt := 112) d_Md_ends_26 (by decide) (fun _ => ?_) (fun c => absurd (by decide) c)
    refine ldi_n_4_1 (pc := 112) d_Md_ends_112 ?_
    refine r_if_ne (pc := 113) (tgt := 123) d_Md_ends_113 (by decide) (fun c2 => ?_) (fun c2 => ?_)
    · refine lda_n_4_0 (pc := 123) d_Md_ends_123 ?_
      refine r_callV (pc := 124) (As := []) (k := 9) (N := 56) (T := T_Md) k_Md_256 im_Md_allDone se_Md_allDone rfl (by decide) rfl (by decide) d_Md_ends_124 hM.1 (c_Md_allDone0 hM (by rw [hI3p 114 (by decide)]; exact hF 0 (by decide))) rfl (Nat.le_of_ble_eq_true rfl) (by omega) (by omega) (by omega) (fun v' S' I' J' hq => ?_)
      obtain ⟨rfl, rfl, rfl, rfl⟩ := hq
      refine sti_n_4_2 (pc := 127) d_Md_ends_127 rfl ?_
      refine lda_n_4_0 (pc := 128) d_Md_ends_128 ?_
      refine lda_n_4_0 (pc := 129) d_Md_ends_129 ?_
      refine g_Md_88 (pc := 130) rfl d_Md_ends_130 (hM.1) (hM.r 25 rfl) ?_
      refine r_callV (pc := 133) (As := [.ref (qb E + 140)]) (k := 9) (N := 56) (T := T_Md) k_Md_269 im_Md_again se_Md_again rfl (by decide) rfl (by decide) d_Md_ends_133 hM.1 (c_Md_again0 hM (hM.a 25 rfl)) rfl (Nat.le_of_ble_eq_true rfl) (by omega) (by omega) (by omega) (fun v' S' I4p J' hq => ?_)
      obtain ⟨rfl, rfl, hI4p, rfl⟩ := hq
      refine ldi_n_4_2 (pc := 136) d_Md_ends_136 ?_
      exact r_iret d_Md_ends_137 rfl (by omega) (by omega) (by rw [a_Md_ends, if_neg c1, if_neg c2])
    · refine lda_n_4_0 (pc := 116) d_Md_ends_116 ?_
      refine r_callV (pc := 117) (As := []) (k := 9) (N := 56) (T := T_Md) k_Md_253 im_Md_allHurt se_Md_allHurt rfl (by decide) rfl (by decide) d_Md_ends_117 hM.1 (c_Md_allHurt0 hM (by rw [hI3p 114 (by decide)]; exact hF 0 (by decide))) rfl (Nat.le_of_ble_eq_true rfl) (by omega) (by omega) (by omega) (fun v' S' I' J' hq => ?_)
      obtain ⟨rfl, rfl, rfl, rfl⟩ := hq
      refine r_goto (pc := 120) (tgt := 127) d_Md_ends_120 (by decide) ?_
      refine sti_n_4_2 (pc := 127) d_Md_ends_127 rfl ?_
      refine lda_n_4_0 (pc := 128) d_Md_ends_128 ?_
      refine lda_n_4_0 (pc := 129) d_Md_ends_129 ?_
      refine g_Md_88 (pc := 130) rfl d_Md_ends_130 (hM.1) (hM.r 25 rfl) ?_
      refine r_callV (pc := 133) (As := [.ref (qb E + 140)]) (k := 9) (N := 56) (T := T_Md) k_Md_269 im_Md_again se_Md_again rfl (by decide) rfl (by decide) d_Md_ends_133 hM.1 (c_Md_again0 hM (hM.a 25 rfl)) rfl (Nat.le_of_ble_eq_true rfl) (by omega) (by omega) (by omega) (fun v' S' I5p J' hq => ?_)
      obtain ⟨rfl, rfl, hI5p, rfl⟩ := hq
      refine ldi_n_4_2 (pc := 136) d_Md_ends_136 ?_
      exact r_iret d_Md_ends_137 rfl (by omega) (by omega) (by rw [a_Md_ends, if_neg c1, if_pos c2])
  · refine r_iconst (pc := 9) (v := (-1)) d_Md_ends_9 rfl ?_
    exact r_iret d_Md_ends_10 rfl (by omega) (by omega) (by rw [a_Md_ends, if_pos c1])
def a_Md_book (p : Int32) (x : Int32) : Int32 := (if p = (-1) then 0 else (-1))
theorem k_Md_book {p x : Int32} (hM : isMd S) (hF : ∀ j, j ≠ 18 → I 114 j = 0) (hh : I 114 18 = -1) : qMet E y_Md_book b_Md_book 3 (some .int) 2 0 0 [.ref (qb E + 114), .int p, .int x] S I J (fun r S' I' J' => r = some (.int (a_Md_book p x))) := by
  refine qMet.of (L := [some (.ref (qb E + 114)), some (.int p), some (.int x)]) (by decide +kernel) (Nat.le_of_ble_eq_true rfl) rfl ?_
  refine ldi_n_3_1 (pc := 0) d_Md_book_0 ?_
  refine r_iconst (pc := 1) (v := (-1)) d_Md_book_1 rfl ?_
  refine r_icmp_ne (pc := 2) (tgt := 12) d_Md_book_2 (by decide) (fun c1 => ?_) (fun c1 => ?_)
  · refine lda_n_3_0 (pc := 12) d_Md_book_12 ?_
    refine ldi_n_3_1 (pc := 13) d_Md_book_13 ?_
    refine r_callV (pc := 14) (As := [.int p]) (k := 9) (N := 56) (T := T_Md) k_Md_127 im_Md_isOne se_Md_isOne rfl (by decide) rfl (by decide) d_Md_book_14 hM.1 (c_Md_isOne0 hM (by exact hF 0 (by decide))) rfl (Nat.le_of_ble_eq_true rfl) (by omega) (by omega) (by omega) (fun v' S' I' J' hq => ?_)
    obtain ⟨rfl, rfl, rfl, rfl⟩ := hq
    refine r_if_ne (pc := 17) (tgt := 22) d_Md_book_17 (by decide) (fun c => absurd (by decide) c) (fun _ => ?_)
    refine r_iconst (pc := 20) (v := (-1)) d_Md_book_20 rfl ?_
    exact r_iret d_Md_book_21 rfl (by omega) (by omega) (by rw [a_Md_book, if_neg c1])
  · refine lda_n_3_0 (pc := 5) d_Md_book_5 ?_
    refine r_iconst (pc := 6) (v := 0) d_Md_book_6 rfl ?_
    refine p_Md_336 (pc := 7) rfl d_Md_book_7 (hM.1) ?_
    refine r_nmI (fun I3 hI2 => ?_)
    refine r_iconst (pc := 10) (v := 0) d_Md_book_10 rfl ?_
    exact r_iret d_Md_book_11 rfl (by omega) (by omega) (by rw [a_Md_book, if_pos c1])
def a_Md_looked  : Int32 := (-5)
theorem k_Md_looked  (hM : isMd S) (hF : ∀ j, j ≠ 18 → I 114 j = 0) (hh : I 114 18 = -1) : qMet E y_Md_looked b_Md_looked 2 (some .int) 0 0 0 [.ref (qb E + 114)] S I J (fun r S' I' J' => r = some (.int (a_Md_looked))) := by
  refine qMet.of (L := [some (.ref (qb E + 114)), none]) (by decide +kernel) (Nat.le_of_ble_eq_true rfl) rfl ?_
  refine r_iconst (pc := 0) (v := 0) d_Md_looked_0 rfl ?_
  refine sti_n_2_1 (pc := 1) d_Md_looked_1 rfl ?_
  refine ldi_n_2_1 (pc := 2) d_Md_looked_2 ?_
  refine lda_n_2_0 (pc := 3) d_Md_looked_3 ?_
  refine g_Md_336 (pc := 4) rfl d_Md_looked_4 (hM.1) ?_
  refine r_top (v := 0) (by exact hF 34 (by decide)) ?_
  refine r_icmp_ge (pc := 7) (tgt := 38) d_Md_looked_7 (by decide) (fun _ => ?_) (fun c => absurd (by decide) c)
  refine r_bipush (pc := 38) (v := (-5)) d_Md_looked_38 rfl ?_
  exact r_iret d_Md_looked_40 rfl (by omega) (by omega) rfl
def a_Md_image  : Int32 := 0
theorem k_Md_image  (hM : isMd S) (hF : ∀ j, j ≠ 18 → I 114 j = 0) (hh : I 114 18 = -1) : qMet E y_Md_image b_Md_image 1 (some .int) 1 0 0 [.ref (qb E + 114)] S I J (fun r S' I' J' => r = some (.int (a_Md_image))) := by
  refine qMet.of (L := [some (.ref (qb E + 114))]) (by decide +kernel) (Nat.le_of_ble_eq_true rfl) rfl ?_
  refine lda_n_1_0 (pc := 0) d_Md_image_0 ?_
  refine r_iconst (pc := 1) (v := 1) d_Md_image_1 rfl ?_
  refine p_Md_339 (pc := 2) rfl d_Md_image_2 (hM.1) (by first | exact Or.inl rfl | exact Or.inr rfl | assumption) ?_
  refine r_nmI (fun I2 hI1 => ?_)
  refine lda_n_1_0 (pc := 5) d_Md_image_5 ?_
  refine lda_n_1_0 (pc := 6) d_Md_image_6 ?_
  refine g_Md_85 (pc := 7) rfl d_Md_image_7 (hM.1) (hM.r 24 rfl) ?_
  refine r_callV (pc := 10) (As := [.ref (qb E + 139)]) (k := 9) (N := 56) (T := T_Md) k_Md_265 im_Md_keep se_Md_keep rfl (by decide) rfl (by decide) d_Md_image_10 hM.1 (c_Md_keep0 hM (hM.a 24 rfl)) rfl (Nat.le_of_ble_eq_true rfl) (by omega) (by omega) (by omega) (fun v' S' I6p J' hq => ?_)
  obtain ⟨rfl, rfl, hI6p, rfl⟩ := hq
  refine lda_n_1_0 (pc := 13) d_Md_image_13 ?_
  refine g_Md_117 (pc := 14) rfl d_Md_image_14 (hM.1) ?_
  refine r_top (v := 0) (by rw [hI6p 114 (by decide), hI1, qup_j (by decide)]; exact hF 0 (by decide)) ?_
  exact r_iret d_Md_image_17 rfl (by omega) (by omega) rfl
def a_Md_undo  : Int32 := (-3)
theorem k_Md_undo  (hM : isMd S) (hF : ∀ j, j ≠ 18 → I 114 j = 0) (hh : I 114 18 = -1) : qMet E y_Md_undo b_Md_undo 1 (some .int) 0 0 0 [.ref (qb E + 114)] S I J (fun r S' I' J' => r = some (.int (a_Md_undo))) := by
  refine qMet.of (L := [some (.ref (qb E + 114))]) (by decide +kernel) (Nat.le_of_ble_eq_true rfl) rfl ?_
  refine lda_n_1_0 (pc := 0) d_Md_undo_0 ?_
  refine g_Md_339 (pc := 1) rfl d_Md_undo_1 (hM.1) ?_
  refine r_top (v := 0) (by exact hF 39 (by decide)) ?_
  refine r_if_ne (pc := 4) (tgt := 10) d_Md_undo_4 (by decide) (fun c => absurd (by decide) c) (fun _ => ?_)
  refine r_bipush (pc := 7) (v := (-3)) d_Md_undo_7 rfl ?_
  exact r_iret d_Md_undo_9 rfl (by omega) (by omega) rfl
def a_Md_act (p : Int32) (x : Int32) (y : Int32) : Int32 := 0
theorem k_Md_act {p x y : Int32} (hM : isMd S) (hF : ∀ j, j ≠ 18 → I 114 j = 0) (hh : I 114 18 = -1) : qMet E y_Md_act b_Md_act 5 (some .int) 2 0 0 [.ref (qb E + 114), .int p, .int x, .int y] S I J (fun r S' I' J' => r = some (.int (a_Md_act p x y))) := by
  refine qMet.of (L := [some (.ref (qb E + 114)), some (.int p), some (.int x), some (.int y), none]) (by decide +kernel) (Nat.le_of_ble_eq_true rfl) rfl ?_
  refine lda_n_5_0 (pc := 0) d_Md_act_0 ?_
  refine r_iconst (pc := 1) (v := 0) d_Md_act_1 rfl ?_
  refine p_Md_342 (pc := 2) rfl d_Md_act_2 (hM.1) ?_
  refine r_nmI (fun I2 hI1 => ?_)
  refine lda_n_5_0 (pc := 5) d_Md_act_5 ?_
  refine ldi_n_5_1 (pc := 6) d_Md_act_6 ?_
  refine r_callV (pc := 7) (As := [.int p]) (k := 9) (N := 56) (T := T_Md) k_Md_127 im_Md_isOne se_Md_isOne rfl (by decide) rfl (by decide) d_Md_act_7 hM.1 (c_Md_isOne0 hM (by rw [hI1, qup_j (by decide)]; exact hF 0 (by decide))) rfl (Nat.le_of_ble_eq_true rfl) (by omega) (by omega) (by omega) (fun v' S' I' J' hq => ?_)
  obtain ⟨rfl, rfl, rfl, rfl⟩ := hq
  refine r_if_eq (pc := 10) (tgt := 22) d_Md_act_10 (by decide) (fun _ => ?_) (fun c => absurd (by decide) c)
  refine r_iconst (pc := 22) (v := 0) d_Md_act_22 rfl ?_
  exact r_iret d_Md_act_23 rfl (by omega) (by omega) rfl
def a_Md_trace (x : Int32) : Int32 := (-1)
theorem k_Md_trace {x : Int32} (hM : isMd S) (hF : ∀ j, j ≠ 18 → I 114 j = 0) (hh : I 114 18 = -1) : qMet E y_Md_trace b_Md_trace 2 (some .int) 1 0 0 [.ref (qb E + 114), .int x] S I J (fun r S' I' J' => r = some (.int (a_Md_trace x))) := by
  refine qMet.of (L := [some (.ref (qb E + 114)), some (.int x)]) (by decide +kernel) (Nat.le_of_ble_eq_true rfl) rfl ?_
  refine ldi_n_2_1 (pc := 0) d_Md_trace_0 ?_
  refine r_iconst (pc := 1) (v := 0) d_Md_trace_1 rfl ?_
  refine r_bipush (pc := 2) (v := 20) d_Md_trace_2 rfl ?_
  refine lda_n_2_0 (pc := 4) d_Md_trace_4 ?_
  refine g_Md_342 (pc := 5) rfl d_Md_trace_5 (hM.1) ?_
  refine r_top (v := 0) (by exact hF 37 (by decide)) ?_
  refine r_callS (pc := 8) (As := [.int 20, .int 0]) k_Md_247 sw_jM_min rfl (by decide) d_Md_trace_8 (c_min _ _) rfl (Nat.le_of_ble_eq_true rfl) (by omega) (by omega) (by omega) (fun v' S' I' J' hq => ?_)
  obtain ⟨rfl, rfl, rfl, rfl⟩ := hq
  refine r_top (v := 0) (by decide) ?_
  refine r_iconst (pc := 11) (v := 1) d_Md_trace_11 rfl ?_
  refine r_isub (pc := 12) d_Md_trace_12 ?_
  refine r_top (v := (-1)) (by decide) ?_
  refine r_callS (pc := 13) (As := [.int x, .int 0, .int (-1)]) k_Md_120 sw_Md_within rfl (by decide) d_Md_trace_13 (c_Md_within _ _ _) rfl (Nat.le_of_ble_eq_true rfl) (by omega) (by omega) (by omega) (fun v' S' I' J' hq => ?_)
  obtain ⟨rfl, rfl, rfl, rfl⟩ := hq
  refine r_top (v := 0) (qwithin_e (by decide)) ?_
  refine r_if_eq (pc := 16) (tgt := 28) d_Md_trace_16 (by decide) (fun _ => ?_) (fun c => absurd (by decide) c)
  refine r_iconst (pc := 28) (v := (-1)) d_Md_trace_28 rfl ?_
  exact r_iret d_Md_trace_29 rfl (by omega) (by omega) rfl
def a_Md_taken (p : Int32) (x : Int32) : Int32 := (if (qwithin x 0 6) = 0 then (-2) else (-11))
theorem k_Md_taken {p x : Int32} (hM : isMd S) (hF : ∀ j, j ≠ 18 → I 114 j = 0) (hh : I 114 18 = -1) : qMet E y_Md_taken b_Md_taken 4 (some .int) 2 0 0 [.ref (qb E + 114), .int p, .int x] S I J (fun r S' I' J' => r = some (.int (a_Md_taken p x))) := by
  refine qMet.of (L := [some (.ref (qb E + 114)), some (.int p), some (.int x), none]) (by decide +kernel) (Nat.le_of_ble_eq_true rfl) rfl ?_
  refine ldi_n_4_2 (pc := 0) d_Md_taken_0 ?_
  refine r_iconst (pc := 1) (v := 0) d_Md_taken_1 rfl ?_
  refine r_bipush (pc := 2) (v := 6) d_Md_taken_2 rfl ?_
  refine r_callS (pc := 4) (As := [.int x, .int 0, .int 6]) k_Md_120 sw_Md_within rfl (by decide) d_Md_taken_4 (c_Md_within _ _ _) rfl (Nat.le_of_ble_eq_true rfl) (by omega) (by omega) (by omega) (fun v' S' I' J' hq => ?_)
  obtain ⟨rfl, rfl, rfl, rfl⟩ := hq
  refine r_if_ne (pc := 7) (tgt := 13) d_Md_taken_7 (by decide) (fun c1 => ?_) (fun c1 => ?_)
  · refine lda_n_4_0 (pc := 13) d_Md_taken_13 ?_
    refine ldi_n_4_1 (pc := 14) d_Md_taken_14 ?_
    refine r_callV (pc := 15) (As := [.int p]) (k := 9) (N := 56) (T := T_Md) k_Md_127 im_Md_isOne se_Md_isOne rfl (by decide) rfl (by decide) d_Md_taken_15 hM.1 (c_Md_isOne0 hM (by exact hF 0 (by decide))) rfl (Nat.le_of_ble_eq_true rfl) (by omega) (by omega) (by omega) (fun v' S' I' J' hq => ?_)
    obtain ⟨rfl, rfl, rfl, rfl⟩ := hq
    refine r_if_ne (pc := 18) (tgt := 24) d_Md_taken_18 (by decide) (fun c => absurd (by decide) c) (fun _ => ?_)
    refine r_bipush (pc := 21) (v := (-11)) d_Md_taken_21 rfl ?_
    exact r_iret d_Md_taken_23 rfl (by omega) (by omega) (by rw [a_Md_taken, if_neg c1])
  · refine r_bipush (pc := 10) (v := (-2)) d_Md_taken_10 rfl ?_
    exact r_iret d_Md_taken_12 rfl (by omega) (by omega) (by rw [a_Md_taken, if_pos c1])
def a_Md_count (x : Int32) : Int32 := (if x = 0 then 0 else (if x = 1 then 0 else (if x = 2 then 0 else (if x = 3 then 0 else (if x = 4 then 0 else (if x = 5 then 0 else (if x = 6 then 0 else (if x = 7 then 0 else (-2)))))))))
theorem k_Md_count {x : Int32} (hM : isMd S) (hF : ∀ j, j ≠ 18 → I 114 j = 0) (hh : I 114 18 = -1) : qMet E y_Md_count b_Md_count 2 (some .int) 0 0 0 [.ref (qb E + 114), .int x] S I J (fun r S' I' J' => r = some (.int (a_Md_count x))) := by
  refine qMet.of (L := [some (.ref (qb E + 114)), some (.int x)]) (by decide +kernel) (Nat.le_of_ble_eq_true rfl) rfl ?_
  refine ldi_n_2_1 (pc := 0) d_Md_count_0 ?_
  by_cases e1 : x = 0
  · refine r_tableIn (pc := 1) (off := 47) (tgt := 48) d_Md_count_1 (by rw [e1]; decide) (by rw [e1]; decide) (by rw [e1]; decide +kernel) (by decide) ?_
    refine lda_n_2_0 (pc := 48) d_Md_count_48 ?_
    refine g_Md_117 (pc := 49) rfl d_Md_count_49 (hM.1) ?_
    refine r_top (v := 0) (by exact hF 0 (by decide)) ?_
    exact r_iret d_Md_count_52 rfl (by omega) (by omega) (by rw [a_Md_count, if_pos e1])
  · by_cases e2 : x = 1
    · refine r_tableIn (pc := 1) (off := 52) (tgt := 53) d_Md_count_1 (by rw [e2]; decide) (by rw [e2]; decide) (by rw [e2]; decide +kernel) (by decide) ?_
      refine lda_n_2_0 (pc := 53) d_Md_count_53 ?_
      refine g_Md_215 (pc := 54) rfl d_Md_count_54 (hM.1) ?_
      refine r_top (v := 0) (by exact hF 17 (by decide)) ?_
      exact r_iret d_Md_count_57 rfl (by omega) (by omega) (by rw [a_Md_count, if_neg e1, if_pos e2])
    · by_cases e3 : x = 2
      · refine r_tableIn (pc := 1) (off := 57) (tgt := 58) d_Md_count_1 (by rw [e3]; decide) (by rw [e3]; decide) (by rw [e3]; decide +kernel) (by decide) ?_
        refine lda_n_2_0 (pc := 58) d_Md_count_58 ?_
        refine g_Md_124 (pc := 59) rfl d_Md_count_59 (hM.1) ?_
        refine r_top (v := 0) (by exact hF 8 (by decide)) ?_
        exact r_iret d_Md_count_62 rfl (by omega) (by omega) (by rw [a_Md_count, if_neg e1, if_neg e2, if_pos e3])
      · by_cases e4 : x = 3
        · refine r_tableIn (pc := 1) (off := 62) (tgt := 63) d_Md_count_1 (by rw [e4]; decide) (by rw [e4]; decide) (by rw [e4]; decide +kernel) (by decide) ?_
          refine lda_n_2_0 (pc := 63) d_Md_count_63 ?_
          refine g_Md_314 (pc := 64) rfl d_Md_count_64 (hM.1) ?_
          refine r_top (v := 0) (by exact hF 27 (by decide)) ?_
          exact r_iret d_Md_count_67 rfl (by omega) (by omega) (by rw [a_Md_count, if_neg e1, if_neg e2, if_neg e3, if_pos e4])
        · by_cases e5 : x = 4
          · refine r_tableIn (pc := 1) (off := 67) (tgt := 68) d_Md_count_1 (by rw [e5]; decide) (by rw [e5]; decide) (by rw [e5]; decide +kernel) (by decide) ?_
            refine lda_n_2_0 (pc := 68) d_Md_count_68 ?_
            refine g_Md_333 (pc := 69) rfl d_Md_count_69 (hM.1) ?_
            refine r_top (v := 0) (by exact hF 31 (by decide)) ?_
            exact r_iret d_Md_count_72 rfl (by omega) (by omega) (by rw [a_Md_count, if_neg e1, if_neg e2, if_neg e3, if_neg e4, if_pos e5])
          · by_cases e6 : x = 5
            · refine r_tableIn (pc := 1) (off := 72) (tgt := 73) d_Md_count_1 (by rw [e6]; decide) (by rw [e6]; decide) (by rw [e6]; decide +kernel) (by decide) ?_
              refine lda_n_2_0 (pc := 73) d_Md_count_73 ?_
              refine g_Md_336 (pc := 74) rfl d_Md_count_74 (hM.1) ?_
              refine r_top (v := 0) (by exact hF 34 (by decide)) ?_
              exact r_iret d_Md_count_77 rfl (by omega) (by omega) (by rw [a_Md_count, if_neg e1, if_neg e2, if_neg e3, if_neg e4, if_neg e5, if_pos e6])
            · by_cases e7 : x = 6
              · refine r_tableIn (pc := 1) (off := 77) (tgt := 78) d_Md_count_1 (by rw [e7]; decide) (by rw [e7]; decide) (by rw [e7]; decide +kernel) (by decide) ?_
                refine lda_n_2_0 (pc := 78) d_Md_count_78 ?_
                refine g_Md_143 (pc := 79) rfl d_Md_count_79 (hM.1) ?_
                refine r_top (v := 0) (by exact hF 11 (by decide)) ?_
                exact r_iret d_Md_count_82 rfl (by omega) (by omega) (by rw [a_Md_count, if_neg e1, if_neg e2, if_neg e3, if_neg e4, if_neg e5, if_neg e6, if_pos e7])
              · by_cases e8 : x = 7
                · refine r_tableIn (pc := 1) (off := 82) (tgt := 83) d_Md_count_1 (by rw [e8]; decide) (by rw [e8]; decide) (by rw [e8]; decide +kernel) (by decide) ?_
                  refine lda_n_2_0 (pc := 83) d_Md_count_83 ?_
                  refine g_Md_342 (pc := 84) rfl d_Md_count_84 (hM.1) ?_
                  refine r_top (v := 0) (by exact hF 37 (by decide)) ?_
                  exact r_iret d_Md_count_87 rfl (by omega) (by omega) (by rw [a_Md_count, if_neg e1, if_neg e2, if_neg e3, if_neg e4, if_neg e5, if_neg e6, if_neg e7, if_pos e8])
                · refine r_tableOut (pc := 1) (tgt := 88) d_Md_count_1 (by simp only [← Int32.toInt_inj, Int32.reduceToInt] at e1 e2 e3 e4 e5 e6 e7 e8; omega) (by decide) ?_
                  refine r_bipush (pc := 88) (v := (-2)) d_Md_count_88 rfl ?_
                  exact r_iret d_Md_count_90 rfl (by omega) (by omega) (by rw [a_Md_count, if_neg e1, if_neg e2, if_neg e3, if_neg e4, if_neg e5, if_neg e6, if_neg e7, if_neg e8])
end MD3
