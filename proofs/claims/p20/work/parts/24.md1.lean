/-! the reference's calls on a fresh object -/
theorem qwithin_e {x a b : Int32} (h : b < a) : qwithin x a b = 0 := by
  unfold qwithin; rw [if_neg]
  intro q
  have h1 := Int32.le_iff_toInt_le.mp q.1
  have h2 := Int32.le_iff_toInt_le.mp q.2
  have h3 := Int32.lt_iff_toInt_lt.mp h
  omega
theorem qtape_y {x : Int32} (h : ¬ qwithin x 0 5 = 0) : ∃ t, t < 6 ∧ x = nI t := by
  obtain ⟨h1, h2⟩ := qwithin_y h
  rw [Int32.le_iff_toInt_le] at h1 h2
  have e1 : (0 : Int32).toInt = 0 := rfl
  have e2 : (5 : Int32).toInt = 5 := rfl
  rw [e1] at h1
  rw [e2] at h2
  refine ⟨x.toInt.toNat, by omega, ?_⟩
  rw [← Int32.toInt_inj, nI_toInt (by omega)]; omega
section MD1
variable {E : qE} {S : qSh} {I : qI} {J : qJ}
theorem c_Md_within (n a b : Int32) : qMet E y_Md_within b_Md_within 3 (some .boolean) 0 0 0 [.int n, .int a, .int b] S I J (qPi S I J (qwithin n a b)) := by
  refine qMet.of (L := [some (.int n), some (.int a), some (.int b)]) (by decide +kernel) (Nat.le_of_ble_eq_true rfl) rfl ?_
  refine ldi_n_3_0 (pc := 0) d_Md_within_0 ?_
  refine ldi_n_3_1 (pc := 1) d_Md_within_1 ?_
  refine r_icmp_lt (pc := 2) (tgt := 14) d_Md_within_2 (by decide) (fun c2 => ?_) (fun c2 => ?_)
  · refine r_iconst (pc := 14) (v := 0) d_Md_within_14 rfl ?_
    refine r_nret d_Md_within_15 rfl (qbool_n (by first | exact Or.inl rfl | exact Or.inr rfl | assumption | exact qwithin_b | exact qbit_b)) (by omega) (by omega) ?_
    first | exact ⟨by rw [qwithin_0 (Or.inl (by assumption))], rfl, rfl, rfl⟩ | exact ⟨by rw [qwithin_0 (Or.inr (by assumption))], rfl, rfl, rfl⟩ | exact ⟨by rw [qwithin_1 (by assumption) (by assumption)], rfl, rfl, rfl⟩
  · refine ldi_n_3_0 (pc := 5) d_Md_within_5 ?_
    refine ldi_n_3_2 (pc := 6) d_Md_within_6 ?_
    refine r_icmp_gt (pc := 7) (tgt := 14) d_Md_within_7 (by decide) (fun c7 => ?_) (fun c7 => ?_)
    · refine r_iconst (pc := 14) (v := 0) d_Md_within_14 rfl ?_
      refine r_nret d_Md_within_15 rfl (qbool_n (by first | exact Or.inl rfl | exact Or.inr rfl | assumption | exact qwithin_b | exact qbit_b)) (by omega) (by omega) ?_
      first | exact ⟨by rw [qwithin_0 (Or.inl (by assumption))], rfl, rfl, rfl⟩ | exact ⟨by rw [qwithin_0 (Or.inr (by assumption))], rfl, rfl, rfl⟩ | exact ⟨by rw [qwithin_1 (by assumption) (by assumption)], rfl, rfl, rfl⟩
    · refine r_iconst (pc := 10) (v := 1) d_Md_within_10 rfl ?_
      refine r_goto (pc := 11) (tgt := 15) d_Md_within_11 (by decide) ?_
      refine r_nret d_Md_within_15 rfl (qbool_n (by first | exact Or.inl rfl | exact Or.inr rfl | assumption | exact qwithin_b | exact qbit_b)) (by omega) (by omega) ?_
      first | exact ⟨by rw [qwithin_0 (Or.inl (by assumption))], rfl, rfl, rfl⟩ | exact ⟨by rw [qwithin_0 (Or.inr (by assumption))], rfl, rfl, rfl⟩ | exact ⟨by rw [qwithin_1 (by assumption) (by assumption)], rfl, rfl, rfl⟩
theorem c_Md_isTape (n : Int32) : qMet E y_Md_isTape b_Md_isTape 1 (some .boolean) 1 0 0 [.int n] S I J (qPi S I J (qwithin n 0 5)) := by
  refine qMet.of (L := [some (.int n)]) (by decide +kernel) (Nat.le_of_ble_eq_true rfl) rfl ?_
  refine ldi_n_1_0 (pc := 0) d_Md_isTape_0 ?_
  refine r_iconst (pc := 1) (v := 0) d_Md_isTape_1 rfl ?_
  refine r_iconst (pc := 2) (v := 5) d_Md_isTape_2 rfl ?_
  refine r_callS (pc := 3) (As := [.int n, .int 0, .int 5]) k_Md_120 sw_Md_within rfl (by decide) d_Md_isTape_3 (c_Md_within n 0 5) rfl (Nat.le_of_ble_eq_true rfl) (by omega) (by omega) (by omega) (fun v S' I' J' hq => ?_)
  obtain ⟨rfl, rfl, rfl, rfl⟩ := hq
  exact r_nret d_Md_isTape_6 rfl (qbool_n (by first | exact Or.inl rfl | exact Or.inr rfl | assumption | exact qwithin_b | exact qbit_b)) (by omega) (by omega) (⟨rfl, rfl, rfl, rfl⟩)
theorem c_Md_isOne0 {x : Int32} (hM : isMd S) (hm : I 114 0 = 0) : qMet E y_Md_isOne b_Md_isOne 2 (some .boolean) 1 0 0 [.ref (qb E + 114), .int x] S I J (qPi S I J (0)) := by
  refine qMet.of (L := [some (.ref (qb E + 114)), some (.int x)]) (by decide +kernel) (Nat.le_of_ble_eq_true rfl) rfl ?_
  refine ldi_n_2_1 (pc := 0) d_Md_isOne_0 ?_
  refine r_iconst (pc := 1) (v := 0) d_Md_isOne_1 rfl ?_
  refine lda_n_2_0 (pc := 2) d_Md_isOne_2 ?_
  refine g_Md_117 (pc := 3) rfl d_Md_isOne_3 (hM.1) ?_
  refine r_top (v := 0) (by exact hm) ?_
  refine r_iconst (pc := 6) (v := 1) d_Md_isOne_6 rfl ?_
  refine r_isub (pc := 7) d_Md_isOne_7 ?_
  refine r_top (v := (-1)) (by decide) ?_
  refine r_callS (pc := 8) (As := [.int x, .int 0, .int (-1)]) k_Md_120 sw_Md_within rfl (by decide) d_Md_isOne_8 (c_Md_within _ _ _) rfl (Nat.le_of_ble_eq_true rfl) (by omega) (by omega) (by omega) (fun v' S' I' J' hq => ?_)
  obtain ⟨rfl, rfl, rfl, rfl⟩ := hq
  refine r_top (v := 0) (qwithin_e (by decide)) ?_
  exact r_nret d_Md_isOne_11 rfl (qbool_n (by first | exact Or.inl rfl | exact Or.inr rfl | assumption | exact qwithin_b | exact qbit_b)) (by omega) (by omega) ⟨rfl, rfl, rfl, rfl⟩
theorem c_Md_lostBy0  (hM : isMd S) (hh : I 114 18 = -1) : qMet E y_Md_lostBy b_Md_lostBy 3 (some .int) 0 0 0 [.ref (qb E + 114)] S I J (qPi S I J (0)) := by
  refine qMet.of (L := [some (.ref (qb E + 114)), none, none]) (by decide +kernel) (Nat.le_of_ble_eq_true rfl) rfl ?_
  refine r_iconst (pc := 0) (v := 0) d_Md_lostBy_0 rfl ?_
  refine sti_n_3_1 (pc := 1) d_Md_lostBy_1 rfl ?_
  refine r_iconst (pc := 2) (v := 0) d_Md_lostBy_2 rfl ?_
  refine sti_n_3_2 (pc := 3) d_Md_lostBy_3 rfl ?_
  refine lda_n_3_0 (pc := 4) d_Md_lostBy_4 ?_
  refine g_Md_113 (pc := 5) rfl d_Md_lostBy_5 (hM.1) ?_
  refine r_top (v := (-1)) (by exact hh) ?_
  refine r_iconst (pc := 8) (v := (-1)) d_Md_lostBy_8 rfl ?_
  refine r_icmp_eq (pc := 9) (tgt := 64) d_Md_lostBy_9 (by decide) (fun _ => ?_) (fun c => absurd (by decide) c)
  refine ldi_n_3_1 (pc := 64) d_Md_lostBy_64 ?_
  exact r_iret d_Md_lostBy_65 rfl (by omega) (by omega) ⟨rfl, rfl, rfl, rfl⟩
theorem c_Md_isLost0 {x : Int32} (hM : isMd S) (hh : I 114 18 = -1) : qMet E y_Md_isLost b_Md_isLost 3 (some .boolean) 1 0 0 [.ref (qb E + 114), .int x] S I J (qPi S I J (0)) := by
  refine qMet.of (L := [some (.ref (qb E + 114)), some (.int x), none]) (by decide +kernel) (Nat.le_of_ble_eq_true rfl) rfl ?_
  refine lda_n_3_0 (pc := 0) d_Md_isLost_0 ?_
  refine r_callV (pc := 1) (As := []) (k := 9) (N := 56) (T := T_Md) k_Md_229 im_Md_lostBy se_Md_lostBy rfl (by decide) rfl (by decide) d_Md_isLost_1 hM.1 (c_Md_lostBy0 hM (by exact hh)) rfl (Nat.le_of_ble_eq_true rfl) (by omega) (by omega) (by omega) (fun v' S' I' J' hq => ?_)
  obtain ⟨rfl, rfl, rfl, rfl⟩ := hq
  refine sti_n_3_2 (pc := 4) d_Md_isLost_4 rfl ?_
  refine ldi_n_3_2 (pc := 5) d_Md_isLost_5 ?_
  refine r_iconst (pc := 6) (v := 1) d_Md_isLost_6 rfl ?_
  refine r_icmp_le (pc := 7) (tgt := 22) d_Md_isLost_7 (by decide) (fun _ => ?_) (fun c => absurd (by decide) c)
  refine r_iconst (pc := 22) (v := 0) d_Md_isLost_22 rfl ?_
  exact r_nret d_Md_isLost_23 rfl (qbool_n (by first | exact Or.inl rfl | exact Or.inr rfl | assumption | exact qwithin_b | exact qbit_b)) (by omega) (by omega) ⟨rfl, rfl, rfl, rfl⟩
theorem c_Md_todays0  (hM : isMd S) (hl : I 114 8 = 0) (hh : I 114 18 = -1) : qMet E y_Md_todays b_Md_todays 2 (some .int) 2 0 0 [.ref (qb E + 114)] S I J (qPi S I J ((-5))) := by
  refine qMet.of (L := [some (.ref (qb E + 114)), none]) (by decide +kernel) (Nat.le_of_ble_eq_true rfl) rfl ?_
  refine lda_n_2_0 (pc := 0) d_Md_todays_0 ?_
  refine lda_n_2_0 (pc := 1) d_Md_todays_1 ?_
  refine g_Md_135 (pc := 2) rfl d_Md_todays_2 (hM.1) ?_
  refine r_callV (pc := 5) (As := [.int (I 114 10)]) (k := 9) (N := 56) (T := T_Md) k_Md_241 im_Md_isLost se_Md_isLost rfl (by decide) rfl (by decide) d_Md_todays_5 hM.1 (c_Md_isLost0 hM (by exact hh)) rfl (Nat.le_of_ble_eq_true rfl) (by omega) (by omega) (by omega) (fun v' S' I' J' hq => ?_)
  obtain ⟨rfl, rfl, rfl, rfl⟩ := hq
  refine r_if_eq (pc := 8) (tgt := 14) d_Md_todays_8 (by decide) (fun _ => ?_) (fun c => absurd (by decide) c)
  refine r_iconst (pc := 14) (v := 0) d_Md_todays_14 rfl ?_
  refine sti_n_2_1 (pc := 15) d_Md_todays_15 rfl ?_
  refine ldi_n_2_1 (pc := 16) d_Md_todays_16 ?_
  refine lda_n_2_0 (pc := 17) d_Md_todays_17 ?_
  refine g_Md_124 (pc := 18) rfl d_Md_todays_18 (hM.1) ?_
  refine r_top (v := 0) (by exact hl) ?_
  refine r_icmp_ge (pc := 21) (tgt := 51) d_Md_todays_21 (by decide) (fun _ => ?_) (fun c => absurd (by decide) c)
  refine r_bipush (pc := 51) (v := (-5)) d_Md_todays_51 rfl ?_
  exact r_iret d_Md_todays_53 rfl (by omega) (by omega) ⟨rfl, rfl, rfl, rfl⟩
theorem c_Md_allHurt0  (hM : isMd S) (hm : I 114 0 = 0) : qMet E y_Md_allHurt b_Md_allHurt 3 (some .int) 0 0 0 [.ref (qb E + 114)] S I J (qPi S I J (0)) := by
  refine qMet.of (L := [some (.ref (qb E + 114)), none, none]) (by decide +kernel) (Nat.le_of_ble_eq_true rfl) rfl ?_
  refine r_iconst (pc := 0) (v := 0) d_Md_allHurt_0 rfl ?_
  refine sti_n_3_1 (pc := 1) d_Md_allHurt_1 rfl ?_
  refine r_iconst (pc := 2) (v := 0) d_Md_allHurt_2 rfl ?_
  refine sti_n_3_2 (pc := 3) d_Md_allHurt_3 rfl ?_
  refine ldi_n_3_2 (pc := 4) d_Md_allHurt_4 ?_
  refine lda_n_3_0 (pc := 5) d_Md_allHurt_5 ?_
  refine g_Md_117 (pc := 6) rfl d_Md_allHurt_6 (hM.1) ?_
  refine r_top (v := 0) (by exact hm) ?_
  refine r_icmp_ge (pc := 9) (tgt := 27) d_Md_allHurt_9 (by decide) (fun _ => ?_) (fun c => absurd (by decide) c)
  refine ldi_n_3_1 (pc := 27) d_Md_allHurt_27 ?_
  exact r_iret d_Md_allHurt_28 rfl (by omega) (by omega) ⟨rfl, rfl, rfl, rfl⟩
theorem c_Md_allDone0  (hM : isMd S) (hm : I 114 0 = 0) : qMet E y_Md_allDone b_Md_allDone 3 (some .int) 0 0 0 [.ref (qb E + 114)] S I J (qPi S I J (0)) := by
  refine qMet.of (L := [some (.ref (qb E + 114)), none, none]) (by decide +kernel) (Nat.le_of_ble_eq_true rfl) rfl ?_
  refine r_iconst (pc := 0) (v := 0) d_Md_allDone_0 rfl ?_
  refine sti_n_3_1 (pc := 1) d_Md_allDone_1 rfl ?_
  refine r_iconst (pc := 2) (v := 0) d_Md_allDone_2 rfl ?_
  refine sti_n_3_2 (pc := 3) d_Md_allDone_3 rfl ?_
  refine ldi_n_3_2 (pc := 4) d_Md_allDone_4 ?_
  refine lda_n_3_0 (pc := 5) d_Md_allDone_5 ?_
  refine g_Md_117 (pc := 6) rfl d_Md_allDone_6 (hM.1) ?_
  refine r_top (v := 0) (by exact hm) ?_
  refine r_icmp_ge (pc := 9) (tgt := 27) d_Md_allDone_9 (by decide) (fun _ => ?_) (fun c => absurd (by decide) c)
  refine ldi_n_3_1 (pc := 27) d_Md_allDone_27 ?_
  exact r_iret d_Md_allDone_28 rfl (by omega) (by omega) ⟨rfl, rfl, rfl, rfl⟩
theorem c_Md_goesDay0  (hM : isMd S) (hm : I 114 0 = 0) (hl : I 114 8 = 0) (hh : I 114 18 = -1) : qMet E y_Md_goesDay b_Md_goesDay 3 none 3 0 0 [.ref (qb E + 114)] S I J (fun r S' I' J' => r = none ∧ S = S' ∧ I' = qup I 114 10 (I 114 10 + 1) ∧ J = J') := by
  refine qMet.of (L := [some (.ref (qb E + 114)), none, none]) (by decide +kernel) (Nat.le_of_ble_eq_true rfl) rfl ?_
  refine lda_n_3_0 (pc := 0) d_Md_goesDay_0 ?_
  refine r_callV (pc := 1) (As := []) (k := 9) (N := 56) (T := T_Md) k_Md_244 im_Md_todays se_Md_todays rfl (by decide) rfl (by decide) d_Md_goesDay_1 hM.1 (c_Md_todays0 hM (by exact hl) (by exact hh)) rfl (Nat.le_of_ble_eq_true rfl) (by omega) (by omega) (by omega) (fun v' S' I' J' hq => ?_)
  obtain ⟨rfl, rfl, rfl, rfl⟩ := hq
  refine sti_n_3_1 (pc := 4) d_Md_goesDay_4 rfl ?_
  refine r_iconst (pc := 5) (v := 0) d_Md_goesDay_5 rfl ?_
  refine sti_n_3_2 (pc := 6) d_Md_goesDay_6 rfl ?_
  refine ldi_n_3_2 (pc := 7) d_Md_goesDay_7 ?_
  refine lda_n_3_0 (pc := 8) d_Md_goesDay_8 ?_
  refine g_Md_117 (pc := 9) rfl d_Md_goesDay_9 (hM.1) ?_
  refine r_top (v := 0) (by exact hm) ?_
  refine r_icmp_ge (pc := 12) (tgt := 82) d_Md_goesDay_12 (by decide) (fun _ => ?_) (fun c => absurd (by decide) c)
  refine ldi_n_3_1 (pc := 82) d_Md_goesDay_82 ?_
  refine r_bipush (pc := 83) (v := (-5)) d_Md_goesDay_83 rfl ?_
  refine r_icmp_eq (pc := 85) (tgt := 95) d_Md_goesDay_85 (by decide) (fun _ => ?_) (fun c => absurd (by decide) c)
  refine lda_n_3_0 (pc := 95) d_Md_goesDay_95 ?_
  refine r_dup (pc := 96) d_Md_goesDay_96 rfl ?_
  refine g_Md_135 (pc := 97) rfl d_Md_goesDay_97 (hM.1) ?_
  refine r_iconst (pc := 100) (v := 1) d_Md_goesDay_100 rfl ?_
  refine r_iadd (pc := 101) d_Md_goesDay_101 ?_
  refine p_Md_135 (pc := 102) rfl d_Md_goesDay_102 (hM.1) ?_
  refine r_nmI (fun I2 hI1 => ?_)
  exact r_vret d_Md_goesDay_105 rfl (by omega) (by omega) ⟨rfl, rfl, (by rw [hI1]), rfl⟩
theorem c_Md_looks0  (hM : isMd S) (hm : I 114 0 = 0) : qMet E y_Md_looks b_Md_looks 5 none 0 0 0 [.ref (qb E + 114)] S I J (fun r S' I' J' => r = none ∧ S = S' ∧ I' = qup I 114 43 0 ∧ J = J') := by
  refine qMet.of (L := [some (.ref (qb E + 114)), none, none, none, none]) (by decide +kernel) (Nat.le_of_ble_eq_true rfl) rfl ?_
  refine lda_n_5_0 (pc := 0) d_Md_looks_0 ?_
  refine r_iconst (pc := 1) (v := 0) d_Md_looks_1 rfl ?_
  refine p_Md_272 (pc := 2) rfl d_Md_looks_2 (hM.1) ?_
  refine r_nmI (fun I2 hI1 => ?_)
  refine r_iconst (pc := 5) (v := 0) d_Md_looks_5 rfl ?_
  refine sti_n_5_1 (pc := 6) d_Md_looks_6 rfl ?_
  refine ldi_n_5_1 (pc := 7) d_Md_looks_7 ?_
  refine lda_n_5_0 (pc := 8) d_Md_looks_8 ?_
  refine g_Md_117 (pc := 9) rfl d_Md_looks_9 (hM.1) ?_
  refine r_top (v := 0) (by rw [hI1, qup_j (by decide)]; exact hm) ?_
  refine r_icmp_ge (pc := 12) (tgt := 154) d_Md_looks_12 (by decide) (fun _ => ?_) (fun c => absurd (by decide) c)
  exact r_vret d_Md_looks_154 rfl (by omega) (by omega) ⟨rfl, rfl, (by rw [hI1]), rfl⟩
theorem c_Md_agreed0  (hM : isMd S) (hm : I 114 0 = 0) : qMet E y_Md_agreed b_Md_agreed 7 (some .int) 1 0 0 [.ref (qb E + 114)] S I J (fun r S' I' J' => r = some (.int (-5)) ∧ S = S' ∧ I' = qup I 114 43 0 ∧ J = J') := by
  refine qMet.of (L := [some (.ref (qb E + 114)), none, none, none, none, none, none]) (by decide +kernel) (Nat.le_of_ble_eq_true rfl) rfl ?_
  refine lda_n_7_0 (pc := 0) d_Md_agreed_0 ?_
  refine r_callV (pc := 1) (As := []) (k := 9) (N := 56) (T := T_Md) k_Md_302 im_Md_looks se_Md_looks rfl (by decide) rfl (by decide) d_Md_agreed_1 hM.1 (c_Md_looks0 hM (by exact hm) ) rfl (Nat.le_of_ble_eq_true rfl) (by omega) (by omega) (by omega) (fun v' S' I1k J' hq => ?_)
  obtain ⟨rfl, rfl, hI1k, rfl⟩ := hq
  refine r_iconst (pc := 4) (v := 0) d_Md_agreed_4 rfl ?_
  refine sti_n_7_1 (pc := 5) d_Md_agreed_5 rfl ?_
  refine ldi_n_7_1 (pc := 6) d_Md_agreed_6 ?_
  refine lda_n_7_0 (pc := 7) d_Md_agreed_7 ?_
  refine g_Md_117 (pc := 8) rfl d_Md_agreed_8 (hM.1) ?_
  refine r_top (v := 0) (by rw [hI1k, qup_j (by decide)]; exact hm) ?_
  refine r_icmp_ge (pc := 11) (tgt := 144) d_Md_agreed_11 (by decide) (fun _ => ?_) (fun c => absurd (by decide) c)
  refine r_bipush (pc := 144) (v := (-5)) d_Md_agreed_144 rfl ?_
  exact r_iret d_Md_agreed_146 rfl (by omega) (by omega) ⟨rfl, rfl, (by rw [hI1k]), rfl⟩
theorem c_Md_dear0 {x : Int32} (hM : isMd S) (hm : I 114 0 = 0) : qMet E y_Md_dear b_Md_dear 7 (some .int) 1 0 0 [.ref (qb E + 114), .int x] S I J (fun r S' I' J' => r = some (.int (-5)) ∧ S = S' ∧ I' = qup I 114 43 0 ∧ J = J') := by
  refine qMet.of (L := [some (.ref (qb E + 114)), some (.int x), none, none, none, none, none]) (by decide +kernel) (Nat.le_of_ble_eq_true rfl) rfl ?_
  refine lda_n_7_0 (pc := 0) d_Md_dear_0 ?_
  refine r_callV (pc := 1) (As := []) (k := 9) (N := 56) (T := T_Md) k_Md_302 im_Md_looks se_Md_looks rfl (by decide) rfl (by decide) d_Md_dear_1 hM.1 (c_Md_looks0 hM (by exact hm) ) rfl (Nat.le_of_ble_eq_true rfl) (by omega) (by omega) (by omega) (fun v' S' I2k J' hq => ?_)
  obtain ⟨rfl, rfl, hI2k, rfl⟩ := hq
  refine r_bipush (pc := 4) (v := (-5)) d_Md_dear_4 rfl ?_
  refine sti_n_7_2 (pc := 6) d_Md_dear_6 rfl ?_
  refine r_bipush (pc := 7) (v := (-5)) d_Md_dear_7 rfl ?_
  refine sti_n_7_3 (pc := 9) d_Md_dear_9 rfl ?_
  refine r_iconst (pc := 10) (v := 0) d_Md_dear_10 rfl ?_
  refine sti_7_4 (pc := 11) d_Md_dear_11 rfl ?_
  refine ldi_7_4 (pc := 13) d_Md_dear_13 ?_
  refine lda_n_7_0 (pc := 15) d_Md_dear_15 ?_
  refine g_Md_272 (pc := 16) rfl d_Md_dear_16 (hM.1) ?_
  refine r_top (v := 0) (by rw [hI2k, qup_at]) ?_
  refine r_icmp_ge (pc := 19) (tgt := 88) d_Md_dear_19 (by decide) (fun _ => ?_) (fun c => absurd (by decide) c)
  refine ldi_n_7_1 (pc := 88) d_Md_dear_88 ?_
  refine r_if_ne (pc := 89) (tgt := 96) d_Md_dear_89 (by decide) (fun c1 => ?_) (fun c1 => ?_)
  · refine ldi_n_7_3 (pc := 96) d_Md_dear_96 ?_
    exact r_iret d_Md_dear_97 rfl (by omega) (by omega) ⟨rfl, rfl, (by rw [hI2k]), rfl⟩
  · refine ldi_n_7_2 (pc := 92) d_Md_dear_92 ?_
    refine r_goto (pc := 93) (tgt := 97) d_Md_dear_93 (by decide) ?_
    exact r_iret d_Md_dear_97 rfl (by omega) (by omega) ⟨rfl, rfl, (by rw [hI2k]), rfl⟩
theorem c_Md_tries0  {q : Int64} (hM : isMd S) (h43 : I 114 43 = 0) (h47 : J 114 47 = -1) (h49 : J 114 49 = q) (h50 : J 114 50 = 0) (h51 : J 114 51 = 0) (h52 : J 114 52 = 0) (hq : ¬ 0 < lg_cmp 0 q) : qMet E y_Md_tries b_Md_tries 10 none 0 0 0 [.ref (qb E + 114), .int 0, .int 0, .long 0, .long 0] S I J (fun r S' I' J' => r = none ∧ S = S' ∧ I = I' ∧ J' = (qup (qup (qup (qup J 114 51 1) 114 52 0) 114 50 1) 114 47 0)) := by
  refine qMet.of (L := [some (.ref (qb E + 114)), some (.int 0), some (.int 0), some (.long 0), none, some (.long 0), none, none, none, none]) (by decide +kernel) (Nat.le_of_ble_eq_true rfl) rfl ?_
  refine ldi_n_10_1 (pc := 0) d_Md_tries_0 ?_
  refine lda_n_10_0 (pc := 1) d_Md_tries_1 ?_
  refine g_Md_272 (pc := 2) rfl d_Md_tries_2 (hM.1) ?_
  refine r_top (v := 0) (by exact h43) ?_
  refine r_icmp_ne (pc := 5) (tgt := 121) d_Md_tries_5 (by decide) (fun c => absurd (by decide) c) (fun _ => ?_)
  refine lda_n_10_0 (pc := 8) d_Md_tries_8 ?_
  refine r_dup (pc := 9) d_Md_tries_9 rfl ?_
  refine g_Md_275 (pc := 10) rfl d_Md_tries_10 (hM.1) ?_
  refine r_topJ (v := 0) (by exact h51) ?_
  refine r_lconst (pc := 13) (v := 1) d_Md_tries_13 rfl ?_
  refine r_ladd (pc := 14) d_Md_tries_14 ?_
  refine r_topJ (v := 1) (by decide) ?_
  refine p_Md_275 (pc := 15) rfl d_Md_tries_15 (hM.1) ?_
  refine r_nmJ (fun J2 hJ1 => ?_)
  refine lda_n_10_0 (pc := 18) d_Md_tries_18 ?_
  refine r_dup (pc := 19) d_Md_tries_19 rfl ?_
  refine g_Md_279 (pc := 20) rfl d_Md_tries_20 (hM.1) ?_
  refine r_topJ (v := 0) (by rw [hJ1, qup_j (by decide)]; exact h52) ?_
  refine ldl_n_10_3 (pc := 23) d_Md_tries_23 ?_
  refine r_ladd (pc := 24) d_Md_tries_24 ?_
  refine r_topJ (v := 0) (by decide) ?_
  refine p_Md_279 (pc := 25) rfl d_Md_tries_25 (hM.1) ?_
  refine r_nmJ (fun J4 hJ3 => ?_)
  refine ldl_n_10_3 (pc := 28) d_Md_tries_28 ?_
  refine lda_n_10_0 (pc := 29) d_Md_tries_29 ?_
  refine g_Md_282 (pc := 30) rfl d_Md_tries_30 (hM.1) ?_
  refine r_topJ (v := q) (by rw [hJ3, qup_j (by decide), hJ1, qup_j (by decide)]; exact h49) ?_
  refine r_lcmp (pc := 33) d_Md_tries_33 ?_
  refine r_if_gt (pc := 34) (tgt := 47) d_Md_tries_34 (by decide) (fun c => absurd c hq) (fun _ => ?_)
  refine lda_n_10_0 (pc := 37) d_Md_tries_37 ?_
  refine r_dup (pc := 38) d_Md_tries_38 rfl ?_
  refine g_Md_285 (pc := 39) rfl d_Md_tries_39 (hM.1) ?_
  refine r_topJ (v := 0) (by rw [hJ3, qup_j (by decide), hJ1, qup_j (by decide)]; exact h50) ?_
  refine r_lconst (pc := 42) (v := 1) d_Md_tries_42 rfl ?_
  refine r_ladd (pc := 43) d_Md_tries_43 ?_
  refine r_topJ (v := 1) (by decide) ?_
  refine p_Md_285 (pc := 44) rfl d_Md_tries_44 (hM.1) ?_
  refine r_nmJ (fun J6 hJ5 => ?_)
  refine lda_n_10_0 (pc := 47) d_Md_tries_47 ?_
  refine g_Md_288 (pc := 48) rfl d_Md_tries_48 (hM.1) ?_
  refine r_if_eq (pc := 51) (tgt := 59) d_Md_tries_51 (by decide) (fun c7 => ?_) (fun c7 => ?_)
  · refine ldl_n_10_3 (pc := 59) d_Md_tries_59 ?_
    refine stl_10_7 (pc := 60) d_Md_tries_60 rfl ?_
    refine lda_n_10_0 (pc := 62) d_Md_tries_62 ?_
    refine g_Md_292 (pc := 63) rfl d_Md_tries_63 (hM.1) ?_
    refine r_topJ (v := (-1)) (by rw [hJ5, qup_j (by decide), hJ3, qup_j (by decide), hJ1, qup_j (by decide)]; exact h47) ?_
    refine r_lconst (pc := 66) (v := 0) d_Md_tries_66 rfl ?_
    refine r_lcmp (pc := 67) d_Md_tries_67 ?_
    refine r_top (v := (-1)) (by decide) ?_
    refine r_if_lt (pc := 68) (tgt := 82) d_Md_tries_68 (by decide) (fun _ => ?_) (fun c => absurd (by decide) c)
    refine lda_n_10_0 (pc := 82) d_Md_tries_82 ?_
    refine ldl_10_7 (pc := 83) d_Md_tries_83 ?_
    refine p_Md_292 (pc := 85) rfl d_Md_tries_85 (hM.1) ?_
    refine r_nmJ (fun J9 hJ8 => ?_)
    refine r_iconst (pc := 88) (v := 0) d_Md_tries_88 rfl ?_
    refine sti_10_9 (pc := 89) d_Md_tries_89 rfl ?_
    refine ldi_10_9 (pc := 91) d_Md_tries_91 ?_
    refine lda_n_10_0 (pc := 93) d_Md_tries_93 ?_
    refine g_Md_272 (pc := 94) rfl d_Md_tries_94 (hM.1) ?_
    refine r_top (v := 0) (by exact h43) ?_
    refine r_icmp_ge (pc := 97) (tgt := 120) d_Md_tries_97 (by decide) (fun _ => ?_) (fun c => absurd (by decide) c)
    exact r_vret d_Md_tries_120 rfl (by omega) (by omega) ⟨rfl, rfl, rfl, (by rw [hJ8, hJ5, hJ3, hJ1])⟩
  · refine ldl_10_5 (pc := 54) d_Md_tries_54 ?_
    refine r_goto (pc := 56) (tgt := 60) d_Md_tries_56 (by decide) ?_
    refine stl_10_7 (pc := 60) d_Md_tries_60 rfl ?_
    refine lda_n_10_0 (pc := 62) d_Md_tries_62 ?_
    refine g_Md_292 (pc := 63) rfl d_Md_tries_63 (hM.1) ?_
    refine r_topJ (v := (-1)) (by rw [hJ5, qup_j (by decide), hJ3, qup_j (by decide), hJ1, qup_j (by decide)]; exact h47) ?_
    refine r_lconst (pc := 66) (v := 0) d_Md_tries_66 rfl ?_
    refine r_lcmp (pc := 67) d_Md_tries_67 ?_
    refine r_top (v := (-1)) (by decide) ?_
    refine r_if_lt (pc := 68) (tgt := 82) d_Md_tries_68 (by decide) (fun _ => ?_) (fun c => absurd (by decide) c)
    refine lda_n_10_0 (pc := 82) d_Md_tries_82 ?_
    refine ldl_10_7 (pc := 83) d_Md_tries_83 ?_
    refine p_Md_292 (pc := 85) rfl d_Md_tries_85 (hM.1) ?_
    refine r_nmJ (fun J11 hJ10 => ?_)
    refine r_iconst (pc := 88) (v := 0) d_Md_tries_88 rfl ?_
    refine sti_10_9 (pc := 89) d_Md_tries_89 rfl ?_
    refine ldi_10_9 (pc := 91) d_Md_tries_91 ?_
    refine lda_n_10_0 (pc := 93) d_Md_tries_93 ?_
    refine g_Md_272 (pc := 94) rfl d_Md_tries_94 (hM.1) ?_
    refine r_top (v := 0) (by exact h43) ?_
    refine r_icmp_ge (pc := 97) (tgt := 120) d_Md_tries_97 (by decide) (fun _ => ?_) (fun c => absurd (by decide) c)
    exact r_vret d_Md_tries_120 rfl (by omega) (by omega) ⟨rfl, rfl, rfl, (by rw [hJ10, hJ5, hJ3, hJ1])⟩
theorem c_Md_allWays0 {b q : Int32} (hM : isMd S) (hm : I 114 0 = 0) (hb : qbool b) (hq : ¬ 0 < lg_cmp 0 q.toInt64) : qMet E y_Md_allWays b_Md_allWays 3 none 1 0 0 [.ref (qb E + 114), .int b, .int q] S I J (fun r S' I' J' => r = none ∧ S = S' ∧ I' = qup (qup I 114 43 0) 114 48 b ∧ J' = (qup (qup (qup (qup (qup (qup (qup (qup (qup J 114 49 (q.toInt64)) 114 47 (-1)) 114 50 0) 114 51 0) 114 52 0) 114 51 1) 114 52 0) 114 50 1) 114 47 0)) := by
  refine qMet.of (L := [some (.ref (qb E + 114)), some (.int b), some (.int q)]) (by decide +kernel) (Nat.le_of_ble_eq_true rfl) rfl ?_
  refine lda_n_3_0 (pc := 0) d_Md_allWays_0 ?_
  refine r_callV (pc := 1) (As := []) (k := 9) (N := 56) (T := T_Md) k_Md_302 im_Md_looks se_Md_looks rfl (by decide) rfl (by decide) d_Md_allWays_1 hM.1 (c_Md_looks0 hM (by exact hm) ) rfl (Nat.le_of_ble_eq_true rfl) (by omega) (by omega) (by omega) (fun v' S' I3k J' hq => ?_)
  obtain ⟨rfl, rfl, hI3k, rfl⟩ := hq
  refine lda_n_3_0 (pc := 4) d_Md_allWays_4 ?_
  refine ldi_n_3_1 (pc := 5) d_Md_allWays_5 ?_
  refine p_Md_288 (pc := 6) rfl d_Md_allWays_6 (hM.1) (by assumption) ?_
  refine r_nmI (fun I2 hI1 => ?_)
  refine lda_n_3_0 (pc := 9) d_Md_allWays_9 ?_
  refine ldi_n_3_2 (pc := 10) d_Md_allWays_10 ?_
  refine r_i2l (pc := 11) d_Md_allWays_11 ?_
  refine p_Md_282 (pc := 12) rfl d_Md_allWays_12 (hM.1) ?_
  refine r_nmJ (fun J4 hJ3 => ?_)
  refine lda_n_3_0 (pc := 15) d_Md_allWays_15 ?_
  refine r_ldc2 (pc := 16) cl_Md_305 d_Md_allWays_16 ?_
  refine p_Md_292 (pc := 19) rfl d_Md_allWays_19 (hM.1) ?_
  refine r_nmJ (fun J6 hJ5 => ?_)
  refine lda_n_3_0 (pc := 22) d_Md_allWays_22 ?_
  refine r_lconst (pc := 23) (v := 0) d_Md_allWays_23 rfl ?_
  refine p_Md_285 (pc := 24) rfl d_Md_allWays_24 (hM.1) ?_
  refine r_nmJ (fun J8 hJ7 => ?_)
  refine lda_n_3_0 (pc := 27) d_Md_allWays_27 ?_
  refine r_lconst (pc := 28) (v := 0) d_Md_allWays_28 rfl ?_
  refine p_Md_275 (pc := 29) rfl d_Md_allWays_29 (hM.1) ?_
  refine r_nmJ (fun J10 hJ9 => ?_)
  refine lda_n_3_0 (pc := 32) d_Md_allWays_32 ?_
  refine r_lconst (pc := 33) (v := 0) d_Md_allWays_33 rfl ?_
  refine p_Md_279 (pc := 34) rfl d_Md_allWays_34 (hM.1) ?_
  refine r_nmJ (fun J12 hJ11 => ?_)
  refine lda_n_3_0 (pc := 37) d_Md_allWays_37 ?_
  refine r_iconst (pc := 38) (v := 0) d_Md_allWays_38 rfl ?_
  refine r_iconst (pc := 39) (v := 0) d_Md_allWays_39 rfl ?_
  refine r_lconst (pc := 40) (v := 0) d_Md_allWays_40 rfl ?_
  refine r_lconst (pc := 41) (v := 0) d_Md_allWays_41 rfl ?_
  refine r_callV (pc := 42) (As := [.int 0, .int 0, .long 0, .long 0]) (k := 9) (N := 56) (T := T_Md) k_Md_298 im_Md_tries se_Md_tries rfl (by decide) rfl (by decide) d_Md_allWays_42 hM.1 (c_Md_tries0 hM (by rw [hI1, qup_j (by decide), hI3k, qup_at]) (by rw [hJ11, qup_j (by decide), hJ9, qup_j (by decide), hJ7, qup_j (by decide), hJ5, qup_at]) (by rw [hJ11, qup_j (by decide), hJ9, qup_j (by decide), hJ7, qup_j (by decide), hJ5, qup_j (by decide), hJ3, qup_at]) (by rw [hJ11, qup_j (by decide), hJ9, qup_j (by decide), hJ7, qup_at]) (by rw [hJ11, qup_j (by decide), hJ9, qup_at]) (by rw [hJ11, qup_at]) hq) rfl (Nat.le_of_ble_eq_true rfl) (by omega) (by omega) (by omega) (fun v' S' I' J4k hq => ?_)
  obtain ⟨rfl, rfl, rfl, hJ4k⟩ := hq
  exact r_vret d_Md_allWays_45 rfl (by omega) (by omega) ⟨rfl, rfl, (by rw [hI1, hI3k]), (by rw [hJ4k, hJ11, hJ9, hJ7, hJ5, hJ3])⟩
theorem qlg_nn {q : Int32} (h : ¬ qwithin q 0 9999 = 0) : ¬ 0 < lg_cmp 0 q.toInt64 := by
  obtain ⟨h1, -⟩ := qwithin_y h
  rw [Int32.le_iff_toInt_le] at h1
  have e1 : (0 : Int32).toInt = 0 := rfl
  rw [e1] at h1
  intro c
  have h2 : (0 : Int64) ≤ q.toInt64 := by rw [Int64.le_iff_toInt_le, Int32.toInt_toInt64]; exact h1
  unfold lg_cmp at c
  split at c
  · rename_i k
    exact absurd k (Int64.not_lt.mpr h2)
  · split at c
    · exact absurd c (by decide)
    · exact absurd c (by decide)
end MD1
