/-! the object's calls on a fresh object, by hand -/
section ON6
variable {E : qE} {S : qSh} {I : qI} {J : qJ}
theorem qFc.ok (hC : qFc S I) : qMgOK I 6 0 ∧ qIsOK I 1 := by
  obtain ⟨hO, hZ, hZ2, hZ3, hZ4, hTs, hTz, hMz⟩ := hC
  have z : ∀ a j, a < 21 → I a j = nI 0 := fun a j h => by rw [hZ a j h, q0]
  exact ⟨⟨⟨0, by omega, z _ _ (by decide)⟩, ⟨0, by omega, z _ _ (by decide)⟩, ⟨0, by omega, z _ _ (by decide)⟩, ⟨0, by omega, z _ _ (by decide)⟩, ⟨0, by omega, z _ _ (by decide)⟩, ⟨0, by omega, z _ _ (by decide)⟩, fun p hp => Or.inl (hMz p hp).1, fun r _ => ⟨0, by omega, z _ _ (by decide)⟩⟩, ⟨0, by omega, z _ _ (by decide), fun j hj => absurd hj (Nat.not_lt_zero _)⟩, ⟨0, by omega, z _ _ (by decide)⟩⟩
theorem qFc.ok33 (hC : qFc S I) : qMgOK (qmbec I 33 6) 33 0 := by
  have h := hC.ok
  obtain ⟨hO, hZ, hZ2, hZ3, hZ4, hTs, hTz, hMz⟩ := hC
  exact qmbec_ok h.1 (by unfold qApM; omega) (fun p hp => Or.inl (hMz p hp).2.1) (fun r _ => ⟨0, by omega, by rw [hZ3 _ _ (by decide) (by decide), q0]⟩)
theorem qFc.cnt33 (hC : qFc S I) : qmbec I 33 6 33 1 = 0 := by
  obtain ⟨hO, hZ, -⟩ := hC
  rw [qmbec_1 (c := 0) (by rw [hZ 6 1 (by decide), q0]) (by omega), nI_0]
theorem qFc.is33 (hC : qFc S I) : qIsOK (qmbec I 33 6) 1 := qIsOK.of hC.ok.2 (qmbec_row hC.ok.1 (by omega)) (qmbec_row hC.ok.1 (by omega))
theorem k_On_mourner {kd v g : Int32} (hC : qFc S I) : qMet E y_On_mourner b_On_mourner 4 (some .int) 1 0 0 [.ref (qb E + 0), .int kd, .int v, .int g] S I J (fun r S' I' J' => r = some (.int (aMourner 0 kd v g)) ∧ S = S' ∧ ∀ a, 114 ≤ a → I' a = I a) := by
  refine qMet.post (c_On_mourner hC.1 (c := 0) (by rw [hC.2.1 6 1 (by decide), q0]) (by omega)) ?_
  rintro r S' I' J' ⟨h1, h2, h3, h4⟩
  refine ⟨h1, h2, fun a ha => ?_⟩
  rw [h3]
  unfold cMournerI
  repeat' split
  · rfl
  · rfl
  · rfl
  · unfold qcomes qm
    rw [qup_row (by omega), qfil_o (by omega), qup_row (by omega), qup_row (by omega), qup_row (by omega), qup_row (by omega), qup_row (by omega), qup_row (by omega)]
  · rfl
theorem rr0 : rok (rread (fun _ => 0) 0) 0 = 0 ∧ (rread (fun _ => 0) 0).1.1 = 0 := by decide +kernel
theorem k_On_island (hC : qFc S I) : qMet E y_On_island b_On_island 2 (some .int) 17 0 0 [.ref (qb E + 0)] S I J (fun r S' I' J' => r = some (.int (-10)) ∧ S = S' ∧ ∀ a, 114 ≤ a → I' a = I a) := by
  obtain ⟨hO, hZ, hZ2, hZ3, hZ4, hTs, hTz, hMz⟩ := hC
  obtain ⟨oT, oR0, oR1, oR2, oR3, oR5, oR6, oR8, oR9, oR10, hI1, hN, hA, hM3, hRe, hBl, hRo, hAc, tA, tR, tT⟩ := hO
  have rT := hRe.1
  refine qMet.of (L := [some (.ref (qb E + 0)), none]) (by decide +kernel) (Nat.le_of_ble_eq_true rfl) rfl ?_
  refine lda_n_2_0 (pc := 0) d_On_island_0 ?_
  refine g_On_135 (pc := 1) rfl d_On_island_1 (by assumption) ?_
  refine r_bipush (pc := 4) (v := 6) d_On_island_4 rfl ?_
  rw [hZ 0 7 (by decide)]
  refine r_icmp_lt (pc := 6) (tgt := 12) d_On_island_6 (by decide) (fun c => ?_) (fun c => ?_)
  · refine lda_n_2_0 (pc := 12) d_On_island_12 ?_
    refine g_On_36 (pc := 13) rfl d_On_island_13 (by assumption) (by assumption) ?_
    refine lda_n_2_0 (pc := 16) d_On_island_16 ?_
    refine g_On_40 (pc := 17) rfl d_On_island_17 (by assumption) (by assumption) ?_
    refine r_callVN (pc := 20) (As := [.ref (qb E + 89)]) (k := 5) (N := 4) (T := T_Re) k_On_138 im_Re_reads se_Re_reads rfl (by decide) rfl (by decide) d_On_island_20 hRe.1 (c_Re_reads (f := fun _ => 0) (n := 0) hRe hBl ⟨by rw [hZ2 87 1 (by decide) (by decide), q0], by omega, fun j hj => absurd hj (Nat.not_lt_zero _), Or.inr (by omega)⟩) rfl (Nat.le_of_ble_eq_true rfl) (by omega) (by omega) (by omega) (fun v S' I2 J' hq => ?_)
    obtain ⟨rfl, rfl, hR2, rfl⟩ := hq
    rw [rr0.1]
    refine sti_n_2_1 (pc := 23) d_On_island_23 rfl ?_
    refine lda_n_2_0 (pc := 24) d_On_island_24 ?_
    refine g_On_36 (pc := 25) rfl d_On_island_25 (by assumption) (by assumption) ?_
    refine r_iconst (pc := 28) (v := 0) d_On_island_28 rfl ?_
    refine p_On_128 (pc := 29) rfl d_On_island_29 (by assumption) ?_
    refine ldi_n_2_1 (pc := 32) d_On_island_32 ?_
    have e2 : I2 87 2 = nI 0 := by have h := hR2.1.2.2.2.1; rw [rr0.2] at h; exact h
    refine r_if_ne (pc := 33) (tgt := 47) d_On_island_33 (by decide) (fun c2 => ?_) (fun c2 => ?_)
    · exact absurd rfl c2
    · refine r_bipush (pc := 36) (v := (-10)) d_On_island_36 rfl ?_
      refine lda_n_2_0 (pc := 38) d_On_island_38 ?_
      refine g_On_36 (pc := 39) rfl d_On_island_39 (by assumption) (by assumption) ?_
      refine g_On_142 (pc := 42) rfl d_On_island_42 (by assumption) ?_
      rw [qup_j (by decide), e2]
      refine r_isub (pc := 45) d_On_island_45 ?_
      exact r_iret d_On_island_46 rfl (by omega) (by omega) (⟨by decide +kernel, rfl, fun a ha => by rw [qup_row (by omega)]; exact hR2.2.1 a (by omega) (by omega) (by omega) (by omega) (by omega)⟩)
  · exact absurd (by decide) c
def a_On_on (n x : Int32) : Int32 := if qwithin x 0 1 = 0 then -1 else if qwithin n 0 60 = 0 then -2 else 0
theorem q01_n {x : Int32} (h0 : ¬ x = 0) (h1 : ¬ x = 1) : qwithin x 0 1 = 0 := by
  rcases (by exact qwithin_b : qbool (qwithin x 0 1)) with h | h
  · exact h
  · exact absurd (q01_y (by rw [h]; decide) h0) h1
theorem q01_p : qwithin 0 0 1 = 1 ∧ qwithin 1 0 1 = 1 := by decide
theorem k_On_on {n x : Int32} (hC : qFc S I) : qMet E y_On_on b_On_on 4 (some .int) 5 0 0 [.ref (qb E + 0), .int n, .int x] S I J (fun r S' I' J' => r = some (.int (a_On_on n x)) ∧ S = S' ∧ ∀ a, 114 ≤ a → I' a = I a) := by
  have hC0 := hC
  obtain ⟨hO, hZ, hZ2, hZ3, hZ4, hTs, hTz, hMz⟩ := hC
  have hO2 := hO
  obtain ⟨oT, oR0, oR1, oR2, oR3, oR5, oR6, oR8, oR9, oR10, hI1, hN, hA, hM3, hRe, hBl, hRo, hAc, tA, tR, tT⟩ := hO2
  have aT := hA.1
  refine qMet.of (L := [some (.ref (qb E + 0)), some (.int n), some (.int x), none]) (by decide +kernel) (Nat.le_of_ble_eq_true rfl) rfl ?_
  have B : ∀ (hx : x = 0 ∨ x = 1), qW E y_On_on b_On_on (some .int) 5 0 0 (fun r S' I' J' => r = some (.int (a_On_on n x)) ∧ S = S' ∧ ∀ a, 114 ≤ a → I' a = I a) 0 0 38 [some (.ref (qb E + 0)), some (.int n), some (.int x), some (.int 0)] [] S I J := by
    intro hx
    have hw : ¬ qwithin x 0 1 = 0 := by rcases hx with rfl | rfl <;> decide
    refine ldi_n_4_1 (pc := 38) d_On_on_38 ?_
    refine r_iconst (pc := 39) (v := 0) d_On_on_39 rfl ?_
    refine r_bipush (pc := 40) (v := 60) d_On_on_40 rfl ?_
    refine r_callS (pc := 42) (As := [.int n, .int 0, .int 60]) k_On_64 sw_On_within rfl (by decide) d_On_on_42 (c_On_within n 0 60) rfl (Nat.le_of_ble_eq_true rfl) (by omega) (by omega) (by omega) (fun v S' I' J' hq => ?_)
    obtain ⟨rfl, rfl, rfl, rfl⟩ := hq
    refine r_if_ne (pc := 45) (tgt := 51) d_On_on_45 (by decide) (fun c2 => ?_) (fun c2 => ?_)
    · obtain ⟨m, hm, rfl⟩ := q60_y c2
      refine lda_n_4_0 (pc := 51) d_On_on_51 ?_
      refine g_On_27 (pc := 52) rfl d_On_on_52 (by assumption) (by assumption) ?_
      refine lda_n_4_0 (pc := 55) d_On_on_55 ?_
      refine g_On_23 (pc := 56) rfl d_On_on_56 (by assumption) (by assumption) ?_
      refine r_callVN (pc := 59) (As := [.ref (qb E + 6)]) (k := 3) (N := 9) (T := T_Mg) k_On_179 im_Mg_becomes se_Mg_becomes rfl (by decide) rfl (by decide) d_On_on_59 aT (c_Mg_becomes hA hN hC0.ok.1 (by unfold qApM; omega)) rfl (Nat.le_of_ble_eq_true rfl) (by omega) (by omega) (by omega) (fun v S2 I2 J' hq => ?_)
      obtain ⟨rfl, hS2, hI2, rfl⟩ := hq
      rw [qsetR_same hA.2.2.2.2.2.1] at hS2
      subst hS2
      refine lda_n_4_0 (pc := 62) d_On_on_62 ?_
      refine g_On_27 (pc := 63) rfl d_On_on_63 (by assumption) (by assumption) ?_
      refine ldi_n_4_1 (pc := 66) d_On_on_66 ?_
      refine r_ldc (pc := 67) ct_On_183 d_On_on_67 ?_
      refine r_callVN (pc := 69) (As := [.int (nI m), .int 2147483647]) (k := 3) (N := 9) (T := T_Mg) k_On_175 im_Mg_go se_Mg_go rfl (by decide) rfl (by decide) d_On_on_69 aT (c_Mg_go (n := m) (D := 0) hA (by rw [hI2]; exact hC0.ok33) (by rw [hI2]; exact hC0.is33) (by unfold qApart; omega) (by omega)) rfl (Nat.le_of_ble_eq_true rfl) (by omega) (by omega) (by omega) (fun v S' I3 J' hq => ?_)
      obtain ⟨rfl, rfl, hI3, rfl⟩ := hq
      have ok3 : qMgOK I3 33 (0 + m) := (qMgOK.goN (by rw [hI2]; exact hC0.ok33) m).eq (by unfold qApart; omega) hI3
      have c3 : I3 33 1 = 0 := by rw [hI3 33 (by omega), qgoN_o (by decide), hI2]; exact hC0.cnt33
      have fr : ∀ a, 114 ≤ a → I3 a = I a := fun a ha => by
        rw [hI3 a (by omega), qgoN_row (D := 0) (by rw [hI2]; exact hC0.ok33) (by omega), hI2, qmbec_row hC0.ok.1 (by omega)]
      refine ldi_n_4_3 (pc := 72) d_On_on_72 ?_
      refine r_if_eq (pc := 73) (tgt := 92) d_On_on_73 (by decide) (fun c4 => ?_) (fun c4 => ?_)
      · refine ldi_n_4_2 (pc := 92) d_On_on_92 ?_
        refine r_if_ne (pc := 93) (tgt := 106) d_On_on_93 (by decide) (fun c5 => ?_) (fun c5 => ?_)
        · refine lda_n_4_0 (pc := 106) d_On_on_106 ?_
          refine g_On_27 (pc := 107) rfl d_On_on_107 (by assumption) (by assumption) ?_
          refine r_callVN (pc := 110) (As := []) (k := 3) (N := 9) (T := T_Mg) k_On_161 im_Mg_howManyDone se_Mg_howManyDone rfl (by decide) rfl (by decide) d_On_on_110 aT (c_Mg_howManyDone hA ok3) rfl (Nat.le_of_ble_eq_true rfl) (by omega) (by omega) (by omega) (fun v S' I' J' hq => ?_)
          obtain ⟨rfl, rfl, rfl, rfl⟩ := hq
          rw [qdones_0 c3]
          exact r_iret d_On_on_113 rfl (by omega) (by omega) (⟨by rw [a_On_on, if_neg hw, if_neg c2], rfl, fr⟩)
        · refine lda_n_4_0 (pc := 96) d_On_on_96 ?_
          refine g_On_27 (pc := 97) rfl d_On_on_97 (by assumption) (by assumption) ?_
          refine r_callVN (pc := 100) (As := []) (k := 3) (N := 9) (T := T_Mg) k_On_157 im_Mg_hurtOfAll se_Mg_hurtOfAll rfl (by decide) rfl (by decide) d_On_on_100 aT (c_Mg_hurtOfAll hA ok3) rfl (Nat.le_of_ble_eq_true rfl) (by omega) (by omega) (by omega) (fun v S' I' J' hq => ?_)
          obtain ⟨rfl, rfl, rfl, rfl⟩ := hq
          rw [qhurts_0 c3]
          refine r_goto (pc := 103) (tgt := 113) d_On_on_103 (by decide) ?_
          exact r_iret d_On_on_113 rfl (by omega) (by omega) (⟨by rw [a_On_on, if_neg hw, if_neg c2], rfl, fr⟩)
      · exact absurd rfl c4
    · refine r_bipush (pc := 48) (v := (-2)) d_On_on_48 rfl ?_
      exact r_iret d_On_on_50 rfl (by omega) (by omega) (⟨by rw [a_On_on, if_neg hw, if_pos c2], rfl, fun _ _ => rfl⟩)
  have A : qW E y_On_on b_On_on (some .int) 5 0 0 (fun r S' I' J' => r = some (.int (a_On_on n x)) ∧ S = S' ∧ ∀ a, 114 ≤ a → I' a = I a) 0 0 21 [some (.ref (qb E + 0)), some (.int n), some (.int x), none] [] S I J := by
    refine r_iconst (pc := 21) (v := 0) d_On_on_21 rfl ?_
    refine sti_n_4_3 (pc := 22) d_On_on_22 rfl ?_
    refine ldi_n_4_2 (pc := 23) d_On_on_23 ?_
    refine r_if_eq (pc := 24) (tgt := 38) d_On_on_24 (by decide) (fun c1 => ?_) (fun c1 => ?_)
    · exact B (Or.inl c1)
    · refine ldi_n_4_2 (pc := 27) d_On_on_27 ?_
      refine r_iconst (pc := 28) (v := 1) d_On_on_28 rfl ?_
      refine r_icmp_eq (pc := 29) (tgt := 38) d_On_on_29 (by decide) (fun c2 => ?_) (fun c2 => ?_)
      · exact B (Or.inr c2)
      · refine ldi_n_4_3 (pc := 32) d_On_on_32 ?_
        refine r_if_ne (pc := 33) (tgt := 38) d_On_on_33 (by decide) (fun c3 => ?_) (fun c3 => ?_)
        · exact absurd rfl c3
        · refine r_iconst (pc := 36) (v := (-1)) d_On_on_36 rfl ?_
          exact r_iret d_On_on_37 rfl (by omega) (by omega) (⟨by rw [a_On_on, if_pos (q01_n c1 c2)], rfl, fun _ _ => rfl⟩)
  refine ldi_n_4_2 (pc := 0) d_On_on_0 ?_
  refine r_bipush (pc := 1) (v := 10) d_On_on_1 rfl ?_
  refine r_icmp_lt (pc := 3) (tgt := 21) d_On_on_3 (by decide) (fun c => ?_) (fun c => ?_)
  · exact A
  · refine lda_n_4_0 (pc := 6) d_On_on_6 ?_
    refine ldi_n_4_2 (pc := 7) d_On_on_7 ?_
    refine r_bipush (pc := 8) (v := 10) d_On_on_8 rfl ?_
    refine r_isub (pc := 10) d_On_on_10 ?_
    refine r_callV (pc := 11) (As := [.int (x - 10)]) (k := 8) (N := 11) (T := T_On) k_On_82 im_On_isMourner se_On_isMourner rfl (by decide) rfl (by decide) d_On_on_11 oT (c_On_isMourner hO) rfl (Nat.le_of_ble_eq_true rfl) (by omega) (by omega) (by omega) (fun v S' I' J' hq => ?_)
    obtain ⟨rfl, rfl, rfl, rfl⟩ := hq
    rw [hZ 6 1 (by decide), qwithin_e (by decide)]
    refine r_if_eq (pc := 14) (tgt := 21) d_On_on_14 (by decide) (fun c2 => ?_) (fun c2 => ?_)
    · exact A
    · exact absurd rfl c2
theorem k_On_empty (hC : qFc S I) : qMet E y_On_empty b_On_empty 2 (some .int) 5 0 0 [.ref (qb E + 0)] S I J (fun r S' I' J' => r = some (.int 0) ∧ S = S' ∧ ∀ a, 114 ≤ a → I' a = I a) := by
  have hC0 := hC
  obtain ⟨hO, hZ, hZ2, hZ3, hZ4, hTs, hTz, hMz⟩ := hC
  obtain ⟨oT, oR0, oR1, oR2, oR3, oR5, oR6, oR8, oR9, oR10, hI1, hN, hA, hM3, hRe, hBl, hRo, hAc, tA, tR, tT⟩ := hO
  have aT := hA.1
  refine qMet.of (L := [some (.ref (qb E + 0)), none]) (by decide +kernel) (Nat.le_of_ble_eq_true rfl) rfl ?_
  refine lda_n_2_0 (pc := 0) d_On_empty_0 ?_
  refine g_On_27 (pc := 1) rfl d_On_empty_1 (by assumption) (by assumption) ?_
  refine lda_n_2_0 (pc := 4) d_On_empty_4 ?_
  refine g_On_23 (pc := 5) rfl d_On_empty_5 (by assumption) (by assumption) ?_
  refine r_callVN (pc := 8) (As := [.ref (qb E + 6)]) (k := 3) (N := 9) (T := T_Mg) k_On_179 im_Mg_becomes se_Mg_becomes rfl (by decide) rfl (by decide) d_On_empty_8 aT (c_Mg_becomes hA hN hC0.ok.1 (by unfold qApM; omega)) rfl (Nat.le_of_ble_eq_true rfl) (by omega) (by omega) (by omega) (fun v S2 I2 J' hq => ?_)
  obtain ⟨rfl, hS2, hI2, rfl⟩ := hq
  rw [qsetR_same hA.2.2.2.2.2.1] at hS2
  subst hS2
  have c3 : I2 33 1 = 0 := by rw [hI2]; exact hC0.cnt33
  refine r_iconst (pc := 11) (v := 0) d_On_empty_11 rfl ?_
  refine sti_n_2_1 (pc := 12) d_On_empty_12 rfl ?_
  refine ldi_n_2_1 (pc := 13) d_On_empty_13 ?_
  refine r_bipush (pc := 14) (v := 60) d_On_empty_14 rfl ?_
  refine r_icmp_gt (pc := 16) (tgt := 54) d_On_empty_16 (by decide) (fun c => ?_) (fun c => ?_)
  · exact absurd c (by decide)
  · refine lda_n_2_0 (pc := 19) d_On_empty_19 ?_
    refine g_On_27 (pc := 20) rfl d_On_empty_20 (by assumption) (by assumption) ?_
    refine r_callVN (pc := 23) (As := []) (k := 3) (N := 9) (T := T_Mg) k_On_161 im_Mg_howManyDone se_Mg_howManyDone rfl (by decide) rfl (by decide) d_On_empty_23 aT (c_Mg_howManyDone hA (D := 0) (by rw [hI2]; exact hC0.ok33)) rfl (Nat.le_of_ble_eq_true rfl) (by omega) (by omega) (by omega) (fun v S' I' J' hq => ?_)
    obtain ⟨rfl, rfl, rfl, rfl⟩ := hq
    rw [qdones_0 c3]
    refine lda_n_2_0 (pc := 26) d_On_empty_26 ?_
    refine g_On_27 (pc := 27) rfl d_On_empty_27 (by assumption) (by assumption) ?_
    refine g_On_68 (pc := 30) rfl d_On_empty_30 (by assumption) ?_
    rw [c3]
    refine r_icmp_ne (pc := 33) (tgt := 38) d_On_empty_33 (by decide) (fun c4 => ?_) (fun c4 => ?_)
    · exact absurd rfl c4
    · refine ldi_n_2_1 (pc := 36) d_On_empty_36 ?_
      exact r_iret d_On_empty_37 rfl (by omega) (by omega) (⟨rfl, rfl, fun a ha => by rw [hI2, qmbec_row hC0.ok.1 (by omega)]⟩)
def a_On_ends (x : Int32) : Int32 := if qwithin x 0 1 = 0 then -1 else 0
theorem k_On_ends {x : Int32} (hC : qFc S I) : qMet E y_On_ends b_On_ends 2 (some .int) 6 0 0 [.ref (qb E + 0), .int x] S I J (fun r S' I' J' => r = some (.int (a_On_ends x)) ∧ S = S' ∧ ∀ a, 114 ≤ a → I' a = I a) := by
  have hC0 := hC
  obtain ⟨hO, hZ, hZ2, hZ3, hZ4, hTs, hTz, hMz⟩ := hC
  obtain ⟨oT, oR0, oR1, oR2, oR3, oR5, oR6, oR8, oR9, oR10, hI1, hN, hA, hM3, hRe, hBl, hRo, hAc, tA, tR, tT⟩ := hO
  have aT := hA.1
  refine qMet.of (L := [some (.ref (qb E + 0)), some (.int x)]) (by decide +kernel) (Nat.le_of_ble_eq_true rfl) rfl ?_
  refine ldi_n_2_1 (pc := 0) d_On_ends_0 ?_
  refine r_iconst (pc := 1) (v := 0) d_On_ends_1 rfl ?_
  refine r_iconst (pc := 2) (v := 1) d_On_ends_2 rfl ?_
  refine r_callS (pc := 3) (As := [.int x, .int 0, .int 1]) k_On_64 sw_On_within rfl (by decide) d_On_ends_3 (c_On_within x 0 1) rfl (Nat.le_of_ble_eq_true rfl) (by omega) (by omega) (by omega) (fun v S' I' J' hq => ?_)
  obtain ⟨rfl, rfl, rfl, rfl⟩ := hq
  refine r_if_ne (pc := 6) (tgt := 11) d_On_ends_6 (by decide) (fun c1 => ?_) (fun c1 => ?_)
  · refine lda_n_2_0 (pc := 11) d_On_ends_11 ?_
    refine g_On_27 (pc := 12) rfl d_On_ends_12 (by assumption) (by assumption) ?_
    refine lda_n_2_0 (pc := 15) d_On_ends_15 ?_
    refine g_On_23 (pc := 16) rfl d_On_ends_16 (by assumption) (by assumption) ?_
    refine r_callVN (pc := 19) (As := [.ref (qb E + 6)]) (k := 3) (N := 9) (T := T_Mg) k_On_179 im_Mg_becomes se_Mg_becomes rfl (by decide) rfl (by decide) d_On_ends_19 aT (c_Mg_becomes hA hN hC0.ok.1 (by unfold qApM; omega)) rfl (Nat.le_of_ble_eq_true rfl) (by omega) (by omega) (by omega) (fun v S2 I2 J' hq => ?_)
    obtain ⟨rfl, hS2, hI2, rfl⟩ := hq
    rw [qsetR_same hA.2.2.2.2.2.1] at hS2
    subst hS2
    refine lda_n_2_0 (pc := 22) d_On_ends_22 ?_
    refine g_On_27 (pc := 23) rfl d_On_ends_23 (by assumption) (by assumption) ?_
    refine r_callVN (pc := 26) (As := []) (k := 3) (N := 9) (T := T_Mg) k_On_235 im_Mg_goByPlan se_Mg_goByPlan rfl (by decide) rfl (by decide) d_On_ends_26 aT (c_Mg_goByPlan (D := 0) hA (by rw [hI2]; exact hC0.ok33) (by rw [hI2]; exact hC0.is33) (by unfold qApart; omega) (by omega)) rfl (Nat.le_of_ble_eq_true rfl) (by omega) (by omega) (by omega) (fun v S' I3 J' hq => ?_)
    obtain ⟨rfl, rfl, hI3, rfl⟩ := hq
    have e0 : (I2 (33 + 7) 3).toNatClampNeg = 0 := by rw [hI2, qmbec_n7, hZ (6 + 7) 3 (by decide)]; rfl
    rw [e0] at hI3
    have hI3 : qEq (1 + 4) I2 I3 := hI3
    have ok3 : qMgOK I3 33 0 := qMgOK.eq (i := 1) (I := I2) (by rw [hI2]; exact hC0.ok33) (by unfold qApart; omega) hI3
    have c3 : I3 33 1 = 0 := by rw [hI3 33 (by omega), hI2]; exact hC0.cnt33
    have fr : ∀ a, 114 ≤ a → I3 a = I a := fun a ha => by
      rw [hI3 a (by omega), hI2, qmbec_row hC0.ok.1 (by omega)]
    refine ldi_n_2_1 (pc := 29) d_On_ends_29 ?_
    refine r_if_ne (pc := 30) (tgt := 43) d_On_ends_30 (by decide) (fun c5 => ?_) (fun c5 => ?_)
    · refine lda_n_2_0 (pc := 43) d_On_ends_43 ?_
      refine g_On_27 (pc := 44) rfl d_On_ends_44 (by assumption) (by assumption) ?_
      refine r_callVN (pc := 47) (As := []) (k := 3) (N := 9) (T := T_Mg) k_On_161 im_Mg_howManyDone se_Mg_howManyDone rfl (by decide) rfl (by decide) d_On_ends_47 aT (c_Mg_howManyDone hA ok3) rfl (Nat.le_of_ble_eq_true rfl) (by omega) (by omega) (by omega) (fun v S' I' J' hq => ?_)
      obtain ⟨rfl, rfl, rfl, rfl⟩ := hq
      rw [qdones_0 c3]
      exact r_iret d_On_ends_50 rfl (by omega) (by omega) (⟨by rw [a_On_ends, if_neg c1], rfl, fr⟩)
    · refine lda_n_2_0 (pc := 33) d_On_ends_33 ?_
      refine g_On_27 (pc := 34) rfl d_On_ends_34 (by assumption) (by assumption) ?_
      refine r_callVN (pc := 37) (As := []) (k := 3) (N := 9) (T := T_Mg) k_On_157 im_Mg_hurtOfAll se_Mg_hurtOfAll rfl (by decide) rfl (by decide) d_On_ends_37 aT (c_Mg_hurtOfAll hA ok3) rfl (Nat.le_of_ble_eq_true rfl) (by omega) (by omega) (by omega) (fun v S' I' J' hq => ?_)
      obtain ⟨rfl, rfl, rfl, rfl⟩ := hq
      rw [qhurts_0 c3]
      refine r_goto (pc := 40) (tgt := 50) d_On_ends_40 (by decide) ?_
      exact r_iret d_On_ends_50 rfl (by omega) (by omega) (⟨by rw [a_On_ends, if_neg c1], rfl, fr⟩)
  · refine r_iconst (pc := 9) (v := (-1)) d_On_ends_9 rfl ?_
    exact r_iret d_On_ends_10 rfl (by omega) (by omega) (⟨by rw [a_On_ends, if_pos c1], rfl, fun _ _ => rfl⟩)
theorem k_On_image (hC : qFc S I) : qMet E y_On_image b_On_image 1 (some .int) 3 0 0 [.ref (qb E + 0)] S I J (fun r S' I' J' => r = some (.int 0) ∧ S = S' ∧ ∀ a, 114 ≤ a → I' a = I a) := by
  have hC0 := hC
  obtain ⟨hO, hZ, hZ2, hZ3, hZ4, hTs, hTz, hMz⟩ := hC
  obtain ⟨oT, oR0, oR1, oR2, oR3, oR5, oR6, oR8, oR9, oR10, hI1, hN, hA, hM3, hRe, hBl, hRo, hAc, tA, tR, tT⟩ := hO
  have nT := hN.1
  have aT := hM3.1
  refine qMet.of (L := [some (.ref (qb E + 0))]) (by decide +kernel) (Nat.le_of_ble_eq_true rfl) rfl ?_
  refine lda_n_1_0 (pc := 0) d_On_image_0 ?_
  refine g_On_30 (pc := 1) rfl d_On_image_1 (by assumption) (by assumption) ?_
  refine lda_n_1_0 (pc := 4) d_On_image_4 ?_
  refine g_On_23 (pc := 5) rfl d_On_image_5 (by assumption) (by assumption) ?_
  refine r_callVN (pc := 8) (As := [.ref (qb E + 6)]) (k := 3) (N := 9) (T := T_Mg) k_On_179 im_Mg_becomes se_Mg_becomes rfl (by decide) rfl (by decide) d_On_image_8 aT (c_Mg_becomes hM3 hN hC0.ok.1 (by unfold qApM; omega)) rfl (Nat.le_of_ble_eq_true rfl) (by omega) (by omega) (by omega) (fun v S2 I2 J' hq => ?_)
  obtain ⟨rfl, hS2, hI2, rfl⟩ := hq
  rw [qsetR_same hM3.2.2.2.2.2.1] at hS2
  subst hS2
  refine lda_n_1_0 (pc := 11) d_On_image_11 ?_
  refine r_iconst (pc := 12) (v := 1) d_On_image_12 rfl ?_
  refine p_On_258 (pc := 13) rfl d_On_image_13 (by assumption) (by first | exact Or.inl rfl | exact Or.inr rfl | assumption) ?_
  refine lda_n_1_0 (pc := 16) d_On_image_16 ?_
  refine g_On_23 (pc := 17) rfl d_On_image_17 (by assumption) (by assumption) ?_
  refine g_On_68 (pc := 20) rfl d_On_image_20 (by assumption) ?_
  rw [qup_o (by decide), hI2, qmbec_row hC0.ok.1 (by omega), hZ 6 1 (by decide)]
  exact r_iret d_On_image_23 rfl (by omega) (by omega) (⟨rfl, rfl, fun a ha => by rw [qup_row (by omega), qmbec_row hC0.ok.1 (by omega)]⟩)
theorem hp6 : qPos 6 1 := ⟨by unfold qApart; omega, by omega, by omega⟩
def a_On_best (x k : Int32) : Int32 := if qwithin x 0 1 = 0 then -1 else if qwithin k (-1) 5 = 0 then -1 else if k < 0 then 0 else -5
theorem k_On_best {x k : Int32} (hC : qFc S I) : qMet E y_On_best b_On_best 3 (some .int) 6 0 0 [.ref (qb E + 0), .int x, .int k] S I J (fun r S' I' J' => r = some (.int (a_On_best x k)) ∧ S = S' ∧ ∀ a, 114 ≤ a → I' a = I a) := by
  have hC0 := hC
  obtain ⟨hO, hZ, hZ2, hZ3, hZ4, hTs, hTz, hMz⟩ := hC
  obtain ⟨oT, oR0, oR1, oR2, oR3, oR5, oR6, oR8, oR9, oR10, hI1, hN, hA, hM3, hRe, hBl, hRo, hAc, tA, tR, tT⟩ := hO
  have aT := hRo.1
  refine qMet.of (L := [some (.ref (qb E + 0)), some (.int x), some (.int k)]) (by decide +kernel) (Nat.le_of_ble_eq_true rfl) rfl ?_
  refine ldi_n_3_1 (pc := 0) d_On_best_0 ?_
  refine r_iconst (pc := 1) (v := 0) d_On_best_1 rfl ?_
  refine r_iconst (pc := 2) (v := 1) d_On_best_2 rfl ?_
  refine r_callS (pc := 3) (As := [.int x, .int 0, .int 1]) k_On_64 sw_On_within rfl (by decide) d_On_best_3 (c_On_within x 0 1) rfl (Nat.le_of_ble_eq_true rfl) (by omega) (by omega) (by omega) (fun v S' I' J' hq => ?_)
  obtain ⟨rfl, rfl, rfl, rfl⟩ := hq
  refine r_if_eq (pc := 6) (tgt := 18) d_On_best_6 (by decide) (fun c1 => ?_) (fun c1 => ?_)
  · refine r_iconst (pc := 18) (v := (-1)) d_On_best_18 rfl ?_
    exact r_iret d_On_best_19 rfl (by omega) (by omega) (⟨by rw [a_On_best, if_pos c1], rfl, fun _ _ => rfl⟩)
  · refine ldi_n_3_2 (pc := 9) d_On_best_9 ?_
    refine r_iconst (pc := 10) (v := (-1)) d_On_best_10 rfl ?_
    refine r_iconst (pc := 11) (v := 5) d_On_best_11 rfl ?_
    refine r_callS (pc := 12) (As := [.int k, .int (-1), .int 5]) k_On_64 sw_On_within rfl (by decide) d_On_best_12 (c_On_within k (-1) 5) rfl (Nat.le_of_ble_eq_true rfl) (by omega) (by omega) (by omega) (fun v S' I' J' hq => ?_)
    obtain ⟨rfl, rfl, rfl, rfl⟩ := hq
    refine r_if_ne (pc := 15) (tgt := 20) d_On_best_15 (by decide) (fun c2 => ?_) (fun c2 => ?_)
    · refine lda_n_3_0 (pc := 20) d_On_best_20 ?_
      refine g_On_46 (pc := 21) rfl d_On_best_21 (by assumption) (by assumption) ?_
      refine lda_n_3_0 (pc := 24) d_On_best_24 ?_
      refine g_On_23 (pc := 25) rfl d_On_best_25 (by assumption) (by assumption) ?_
      refine r_iconst (pc := 28) (v := 0) d_On_best_28 rfl ?_
      refine r_callVN (pc := 29) (As := [.ref (qb E + 6), .int 0]) (k := 6) (N := 10) (T := T_Ro) k_On_184 im_Ro_walk se_Ro_walk rfl (by decide) rfl (by decide) d_On_best_29 aT (c_Ro_walk (D := 0) (c := 0) hRo hN hC0.ok.1 hC0.ok.2 hp6 (by omega) (by rw [hZ 6 1 (by decide), q0]) (by omega)) rfl (Nat.le_of_ble_eq_true rfl) (by omega) (by omega) (by omega) (fun v S' I2 J2 hq => ?_)
      obtain ⟨rfl, rfl, hF2, ⟨z, hz, ez⟩, hJ2, h0⟩ := hq
      obtain ⟨e5, e6, e7, e8, e9⟩ := h0 rfl (by decide)
      have fr : ∀ a, 114 ≤ a → I2 a = I a := fun a ha => hF2 a (by unfold qPr; omega)
      have hz0 : z = 0 := by omega
      subst hz0
      refine ldi_n_3_2 (pc := 32) d_On_best_32 ?_
      refine r_if_ge (pc := 33) (tgt := 58) d_On_best_33 (by decide) (fun c3 => ?_) (fun c3 => ?_)
      · refine ldi_n_3_2 (pc := 58) d_On_best_58 ?_
        refine lda_n_3_0 (pc := 59) d_On_best_59 ?_
        refine g_On_46 (pc := 60) rfl d_On_best_60 (by assumption) (by assumption) ?_
        refine g_On_194 (pc := 63) rfl d_On_best_63 (by assumption) ?_
        rw [ez]
        refine r_icmp_lt (pc := 66) (tgt := 72) d_On_best_66 (by decide) (fun c4 => ?_) (fun c4 => ?_)
        · exact absurd c4 (Int32.not_lt.mpr (by rw [nI_0]; exact c3))
        · refine r_bipush (pc := 69) (v := (-5)) d_On_best_69 rfl ?_
          exact r_iret d_On_best_71 rfl (by omega) (by omega) (⟨by rw [a_On_best, if_neg c1, if_neg c2, if_neg (Int32.not_lt.mpr c3)], rfl, fr⟩)
      · refine ldi_n_3_1 (pc := 36) d_On_best_36 ?_
        refine r_if_ne (pc := 37) (tgt := 50) d_On_best_37 (by decide) (fun c5 => ?_) (fun c5 => ?_)
        · refine lda_n_3_0 (pc := 50) d_On_best_50 ?_
          refine g_On_46 (pc := 51) rfl d_On_best_51 (by assumption) (by assumption) ?_
          refine g_On_191 (pc := 54) rfl d_On_best_54 (by assumption) ?_
          rw [e6]
          exact r_iret d_On_best_57 rfl (by omega) (by omega) (⟨by rw [a_On_best, if_neg c1, if_neg c2, if_pos (Int32.not_le.mp c3)], rfl, fr⟩)
        · refine lda_n_3_0 (pc := 40) d_On_best_40 ?_
          refine g_On_46 (pc := 41) rfl d_On_best_41 (by assumption) (by assumption) ?_
          refine g_On_188 (pc := 44) rfl d_On_best_44 (by assumption) ?_
          rw [e5]
          refine r_goto (pc := 47) (tgt := 57) d_On_best_47 (by decide) ?_
          exact r_iret d_On_best_57 rfl (by omega) (by omega) (⟨by rw [a_On_best, if_neg c1, if_neg c2, if_pos (Int32.not_le.mp c3)], rfl, fr⟩)
    · refine r_iconst (pc := 18) (v := (-1)) d_On_best_18 rfl ?_
      exact r_iret d_On_best_19 rfl (by omega) (by omega) (⟨by rw [a_On_best, if_neg c1, if_pos c2], rfl, fun _ _ => rfl⟩)
end ON6
