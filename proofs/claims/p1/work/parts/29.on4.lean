/-! the object's calls on a fresh object -/
def qFc (S : qSh) (I : qI) : Prop := isOn S 1 1 1 89 ∧ (∀ a j, a < 21 → I a j = 0) ∧ (∀ a j, 87 ≤ a → a < 102 → I a j = 0) ∧ (∀ a j, 33 ≤ a → a < 48 → I a j = 0) ∧ (∀ a j, 60 ≤ a → a < 75 → I a j = 0) ∧ (∀ t, t < 6 → I (102 + 2 * t) 0 = -1) ∧ (∀ t, t < 6 → I (102 + 2 * t) 1 = 0) ∧ ∀ p, p < 6 → I (qm 6 p) 6 = 0 ∧ I (qm 33 p) 6 = 0 ∧ I (qm 60 p) 6 = 0
theorem qadd_row {I : qI} {o k a : Nat} {x y z : Int32} (h : a < o ∨ o + 3 < a) : qadd I o k x y z a = I a := by
  unfold qadd
  rw [qup_row (by omega), qup_row (by omega), qup_row (by omega), qup_row (by omega)]
section ON4
variable {E : qE} {S : qSh} {I : qI} {J : qJ}
def a_On_of (p : Int32) (x : Int32) : Int32 := (-1)
theorem k_On_of {p x : Int32} (hC : qFc S I) : qMet E y_On_of b_On_of 4 (some .int) 2 0 0 [.ref (qb E + 0), .int p, .int x] S I J (fun r S' I' J' => r = some (.int (a_On_of p x)) ∧ S = S' ∧ ∀ a, 114 ≤ a → I' a = I a) := by
  obtain ⟨hO, hZ, hZ2, hZ3, hZ4, hTs, hTz, hMz⟩ := hC
  have hO2 := hO
  obtain ⟨oT, oR0, oR1, oR2, oR3, oR5, oR6, oR8, oR9, oR10, hI1, hN, hA, hM3, hRe, hBl, hRo, hAc, tA, tR, tT⟩ := hO2
  have hN0 := hN
  obtain ⟨mT, mA1, mA2, mR0, mR2, mR5, mR6, mR7, mR8, nS, nP, nB, nI0, mRp, mMp⟩ := hN
  refine qMet.of (L := [some (.ref (qb E + 0)), some (.int p), some (.int x), none]) (by decide +kernel) (Nat.le_of_ble_eq_true rfl) rfl ?_
  refine lda_n_4_0 (pc := 0) d_On_of_0 ?_
  refine ldi_n_4_1 (pc := 1) d_On_of_1 ?_
  refine r_callV (pc := 2) (As := [.int p]) (k := 8) (N := 11) (T := T_On) k_On_82 im_On_isMourner se_On_isMourner rfl (by decide) rfl (by decide) d_On_of_2 oT (c_On_isMourner hO) rfl (Nat.le_of_ble_eq_true rfl) (by omega) (by omega) (by omega) (fun v' S' I' J' hq => ?_)
  obtain ⟨rfl, rfl, rfl, rfl⟩ := hq
  refine r_top (v := 0) (by rw [show I 6 1 = 0 from (by exact hZ 6 1 (by decide))]; exact qwithin_e (by decide)) ?_
  refine r_if_ne (pc := 5) (tgt := 10) d_On_of_5 (by decide) (fun c => absurd (by decide) c) (fun _ => ?_)
  refine r_iconst (pc := 8) (v := (-1)) d_On_of_8 rfl ?_
  exact r_iret d_On_of_9 rfl (by omega) (by omega) ⟨rfl, rfl, fun _ _ => rfl⟩
def a_On_set (p : Int32) (x : Int32) (n : Int32) : Int32 := (-1)
theorem k_On_set {p x n : Int32} (hC : qFc S I) : qMet E y_On_set b_On_set 7 (some .int) 2 0 0 [.ref (qb E + 0), .int p, .int x, .int n] S I J (fun r S' I' J' => r = some (.int (a_On_set p x n)) ∧ S = S' ∧ ∀ a, 114 ≤ a → I' a = I a) := by
  obtain ⟨hO, hZ, hZ2, hZ3, hZ4, hTs, hTz, hMz⟩ := hC
  have hO2 := hO
  obtain ⟨oT, oR0, oR1, oR2, oR3, oR5, oR6, oR8, oR9, oR10, hI1, hN, hA, hM3, hRe, hBl, hRo, hAc, tA, tR, tT⟩ := hO2
  have hN0 := hN
  obtain ⟨mT, mA1, mA2, mR0, mR2, mR5, mR6, mR7, mR8, nS, nP, nB, nI0, mRp, mMp⟩ := hN
  refine qMet.of (L := [some (.ref (qb E + 0)), some (.int p), some (.int x), some (.int n), none, none, none]) (by decide +kernel) (Nat.le_of_ble_eq_true rfl) rfl ?_
  refine lda_n_7_0 (pc := 0) d_On_set_0 ?_
  refine ldi_n_7_1 (pc := 1) d_On_set_1 ?_
  refine r_callV (pc := 2) (As := [.int p]) (k := 8) (N := 11) (T := T_On) k_On_82 im_On_isMourner se_On_isMourner rfl (by decide) rfl (by decide) d_On_set_2 oT (c_On_isMourner hO) rfl (Nat.le_of_ble_eq_true rfl) (by omega) (by omega) (by omega) (fun v' S' I' J' hq => ?_)
  obtain ⟨rfl, rfl, rfl, rfl⟩ := hq
  refine r_top (v := 0) (by rw [show I 6 1 = 0 from (by exact hZ 6 1 (by decide))]; exact qwithin_e (by decide)) ?_
  refine r_if_eq (pc := 5) (tgt := 17) d_On_set_5 (by decide) (fun _ => ?_) (fun c => absurd (by decide) c)
  refine r_iconst (pc := 17) (v := (-1)) d_On_set_17 rfl ?_
  exact r_iret d_On_set_18 rfl (by omega) (by omega) ⟨rfl, rfl, fun _ _ => rfl⟩
def a_On_done (p : Int32) (x : Int32) : Int32 := (-1)
theorem k_On_done {p x : Int32} (hC : qFc S I) : qMet E y_On_done b_On_done 4 (some .int) 2 0 0 [.ref (qb E + 0), .int p, .int x] S I J (fun r S' I' J' => r = some (.int (a_On_done p x)) ∧ S = S' ∧ ∀ a, 114 ≤ a → I' a = I a) := by
  obtain ⟨hO, hZ, hZ2, hZ3, hZ4, hTs, hTz, hMz⟩ := hC
  have hO2 := hO
  obtain ⟨oT, oR0, oR1, oR2, oR3, oR5, oR6, oR8, oR9, oR10, hI1, hN, hA, hM3, hRe, hBl, hRo, hAc, tA, tR, tT⟩ := hO2
  have hN0 := hN
  obtain ⟨mT, mA1, mA2, mR0, mR2, mR5, mR6, mR7, mR8, nS, nP, nB, nI0, mRp, mMp⟩ := hN
  refine qMet.of (L := [some (.ref (qb E + 0)), some (.int p), some (.int x), none]) (by decide +kernel) (Nat.le_of_ble_eq_true rfl) rfl ?_
  refine lda_n_4_0 (pc := 0) d_On_done_0 ?_
  refine ldi_n_4_1 (pc := 1) d_On_done_1 ?_
  refine r_callV (pc := 2) (As := [.int p]) (k := 8) (N := 11) (T := T_On) k_On_82 im_On_isMourner se_On_isMourner rfl (by decide) rfl (by decide) d_On_done_2 oT (c_On_isMourner hO) rfl (Nat.le_of_ble_eq_true rfl) (by omega) (by omega) (by omega) (fun v' S' I' J' hq => ?_)
  obtain ⟨rfl, rfl, rfl, rfl⟩ := hq
  refine r_top (v := 0) (by rw [show I 6 1 = 0 from (by exact hZ 6 1 (by decide))]; exact qwithin_e (by decide)) ?_
  refine r_if_ne (pc := 5) (tgt := 10) d_On_done_5 (by decide) (fun c => absurd (by decide) c) (fun _ => ?_)
  refine r_iconst (pc := 8) (v := (-1)) d_On_done_8 rfl ?_
  exact r_iret d_On_done_9 rfl (by omega) (by omega) ⟨rfl, rfl, fun _ _ => rfl⟩
def a_On_list (p : Int32) : Int32 := (if p = (-1) then 0 else (-1))
theorem k_On_list {p : Int32} (hC : qFc S I) : qMet E y_On_list b_On_list 2 (some .int) 2 0 0 [.ref (qb E + 0), .int p] S I J (fun r S' I' J' => r = some (.int (a_On_list p)) ∧ S = S' ∧ ∀ a, 114 ≤ a → I' a = I a) := by
  obtain ⟨hO, hZ, hZ2, hZ3, hZ4, hTs, hTz, hMz⟩ := hC
  have hO2 := hO
  obtain ⟨oT, oR0, oR1, oR2, oR3, oR5, oR6, oR8, oR9, oR10, hI1, hN, hA, hM3, hRe, hBl, hRo, hAc, tA, tR, tT⟩ := hO2
  have hN0 := hN
  obtain ⟨mT, mA1, mA2, mR0, mR2, mR5, mR6, mR7, mR8, nS, nP, nB, nI0, mRp, mMp⟩ := hN
  refine qMet.of (L := [some (.ref (qb E + 0)), some (.int p)]) (by decide +kernel) (Nat.le_of_ble_eq_true rfl) rfl ?_
  refine ldi_n_2_1 (pc := 0) d_On_list_0 ?_
  refine r_iconst (pc := 1) (v := (-1)) d_On_list_1 rfl ?_
  refine r_icmp_ne (pc := 2) (tgt := 15) d_On_list_2 (by decide) (fun c1 => ?_) (fun c1 => ?_)
  · refine lda_n_2_0 (pc := 15) d_On_list_15 ?_
    refine ldi_n_2_1 (pc := 16) d_On_list_16 ?_
    refine r_callV (pc := 17) (As := [.int p]) (k := 8) (N := 11) (T := T_On) k_On_82 im_On_isMourner se_On_isMourner rfl (by decide) rfl (by decide) d_On_list_17 oT (c_On_isMourner hO) rfl (Nat.le_of_ble_eq_true rfl) (by omega) (by omega) (by omega) (fun v' S' I' J' hq => ?_)
    obtain ⟨rfl, rfl, rfl, rfl⟩ := hq
    refine r_top (v := 0) (by rw [show I 6 1 = 0 from (by exact hZ 6 1 (by decide))]; exact qwithin_e (by decide)) ?_
    refine r_if_ne (pc := 20) (tgt := 25) d_On_list_20 (by decide) (fun c => absurd (by decide) c) (fun _ => ?_)
    refine r_iconst (pc := 23) (v := (-1)) d_On_list_23 rfl ?_
    exact r_iret d_On_list_24 rfl (by omega) (by omega) ⟨(by rw [a_On_list, if_neg c1]), rfl, fun _ _ => rfl⟩
  · refine lda_n_2_0 (pc := 5) d_On_list_5 ?_
    refine g_On_23 (pc := 6) rfl d_On_list_6 (oT) (by assumption) ?_
    refine r_iconst (pc := 9) (v := 0) d_On_list_9 rfl ?_
    refine p_On_118 (pc := 10) rfl d_On_list_10 (mT) ?_
    refine r_nmI (fun I3 hI2 => ?_)
    refine r_iconst (pc := 13) (v := 0) d_On_list_13 rfl ?_
    exact r_iret d_On_list_14 rfl (by omega) (by omega) ⟨(by rw [a_On_list, if_pos c1]), rfl, fun a ha => by rw [hI2, qup_row (by omega)]⟩
def a_On_swap (p : Int32) (q : Int32) : Int32 := (-1)
theorem k_On_swap {p q : Int32} (hC : qFc S I) : qMet E y_On_swap b_On_swap 5 (some .int) 2 0 0 [.ref (qb E + 0), .int p, .int q] S I J (fun r S' I' J' => r = some (.int (a_On_swap p q)) ∧ S = S' ∧ ∀ a, 114 ≤ a → I' a = I a) := by
  obtain ⟨hO, hZ, hZ2, hZ3, hZ4, hTs, hTz, hMz⟩ := hC
  have hO2 := hO
  obtain ⟨oT, oR0, oR1, oR2, oR3, oR5, oR6, oR8, oR9, oR10, hI1, hN, hA, hM3, hRe, hBl, hRo, hAc, tA, tR, tT⟩ := hO2
  have hN0 := hN
  obtain ⟨mT, mA1, mA2, mR0, mR2, mR5, mR6, mR7, mR8, nS, nP, nB, nI0, mRp, mMp⟩ := hN
  refine qMet.of (L := [some (.ref (qb E + 0)), some (.int p), some (.int q), none, none]) (by decide +kernel) (Nat.le_of_ble_eq_true rfl) rfl ?_
  refine lda_n_5_0 (pc := 0) d_On_swap_0 ?_
  refine ldi_n_5_1 (pc := 1) d_On_swap_1 ?_
  refine r_callV (pc := 2) (As := [.int p]) (k := 8) (N := 11) (T := T_On) k_On_82 im_On_isMourner se_On_isMourner rfl (by decide) rfl (by decide) d_On_swap_2 oT (c_On_isMourner hO) rfl (Nat.le_of_ble_eq_true rfl) (by omega) (by omega) (by omega) (fun v' S' I' J' hq => ?_)
  obtain ⟨rfl, rfl, rfl, rfl⟩ := hq
  refine r_top (v := 0) (by rw [show I 6 1 = 0 from (by exact hZ 6 1 (by decide))]; exact qwithin_e (by decide)) ?_
  refine r_if_eq (pc := 5) (tgt := 16) d_On_swap_5 (by decide) (fun _ => ?_) (fun c => absurd (by decide) c)
  refine r_iconst (pc := 16) (v := (-1)) d_On_swap_16 rfl ?_
  exact r_iret d_On_swap_17 rfl (by omega) (by omega) ⟨rfl, rfl, fun _ _ => rfl⟩
def a_On_row (p : Int32) (q : Int32) (n : Int32) : Int32 := (-1)
theorem k_On_row {p q n : Int32} (hC : qFc S I) : qMet E y_On_row b_On_row 6 (some .int) 2 0 0 [.ref (qb E + 0), .int p, .int q, .int n] S I J (fun r S' I' J' => r = some (.int (a_On_row p q n)) ∧ S = S' ∧ ∀ a, 114 ≤ a → I' a = I a) := by
  obtain ⟨hO, hZ, hZ2, hZ3, hZ4, hTs, hTz, hMz⟩ := hC
  have hO2 := hO
  obtain ⟨oT, oR0, oR1, oR2, oR3, oR5, oR6, oR8, oR9, oR10, hI1, hN, hA, hM3, hRe, hBl, hRo, hAc, tA, tR, tT⟩ := hO2
  have hN0 := hN
  obtain ⟨mT, mA1, mA2, mR0, mR2, mR5, mR6, mR7, mR8, nS, nP, nB, nI0, mRp, mMp⟩ := hN
  refine qMet.of (L := [some (.ref (qb E + 0)), some (.int p), some (.int q), some (.int n), none, none]) (by decide +kernel) (Nat.le_of_ble_eq_true rfl) rfl ?_
  refine lda_n_6_0 (pc := 0) d_On_row_0 ?_
  refine ldi_n_6_1 (pc := 1) d_On_row_1 ?_
  refine r_callV (pc := 2) (As := [.int p]) (k := 8) (N := 11) (T := T_On) k_On_82 im_On_isMourner se_On_isMourner rfl (by decide) rfl (by decide) d_On_row_2 oT (c_On_isMourner hO) rfl (Nat.le_of_ble_eq_true rfl) (by omega) (by omega) (by omega) (fun v' S' I' J' hq => ?_)
  obtain ⟨rfl, rfl, rfl, rfl⟩ := hq
  refine r_top (v := 0) (by rw [show I 6 1 = 0 from (by exact hZ 6 1 (by decide))]; exact qwithin_e (by decide)) ?_
  refine r_if_eq (pc := 5) (tgt := 17) d_On_row_5 (by decide) (fun _ => ?_) (fun c => absurd (by decide) c)
  refine r_iconst (pc := 17) (v := (-1)) d_On_row_17 rfl ?_
  exact r_iret d_On_row_18 rfl (by omega) (by omega) ⟨rfl, rfl, fun _ _ => rfl⟩
def a_On_feed (x : Int32) : Int32 := (if (qwithin x 0 127) = 0 then (-2) else 1)
theorem k_On_feed {x : Int32} (hC : qFc S I) : qMet E y_On_feed b_On_feed 2 (some .int) 1 0 0 [.ref (qb E + 0), .int x] S I J (fun r S' I' J' => r = some (.int (a_On_feed x)) ∧ S = S' ∧ ∀ a, 114 ≤ a → I' a = I a) := by
  obtain ⟨hO, hZ, hZ2, hZ3, hZ4, hTs, hTz, hMz⟩ := hC
  have hO2 := hO
  obtain ⟨oT, oR0, oR1, oR2, oR3, oR5, oR6, oR8, oR9, oR10, hI1, hN, hA, hM3, hRe, hBl, hRo, hAc, tA, tR, tT⟩ := hO2
  have hN0 := hN
  obtain ⟨mT, mA1, mA2, mR0, mR2, mR5, mR6, mR7, mR8, nS, nP, nB, nI0, mRp, mMp⟩ := hN
  refine qMet.of (L := [some (.ref (qb E + 0)), some (.int x)]) (by decide +kernel) (Nat.le_of_ble_eq_true rfl) rfl ?_
  refine ldi_n_2_1 (pc := 0) d_On_feed_0 ?_
  refine r_iconst (pc := 1) (v := 0) d_On_feed_1 rfl ?_
  refine r_bipush (pc := 2) (v := 127) d_On_feed_2 rfl ?_
  refine r_callS (pc := 4) (As := [.int x, .int 0, .int 127]) k_On_64 sw_On_within rfl (by decide) d_On_feed_4 (c_On_within _ _ _) rfl (Nat.le_of_ble_eq_true rfl) (by omega) (by omega) (by omega) (fun v' S' I' J' hq => ?_)
  obtain ⟨rfl, rfl, rfl, rfl⟩ := hq
  refine r_if_ne (pc := 7) (tgt := 13) d_On_feed_7 (by decide) (fun c1 => ?_) (fun c1 => ?_)
  · refine lda_n_2_0 (pc := 13) d_On_feed_13 ?_
    refine g_On_36 (pc := 14) rfl d_On_feed_14 (oT) (by assumption) ?_
    refine g_On_128 (pc := 17) rfl d_On_feed_17 (hRe.1) ?_
    refine r_top (v := 0) (by exact hZ2 87 1 (by decide) (by decide)) ?_
    refine r_bipush (pc := 20) (v := 100) d_On_feed_20 rfl ?_
    refine r_icmp_lt (pc := 22) (tgt := 28) d_On_feed_22 (by decide) (fun _ => ?_) (fun c => absurd (by decide) c)
    refine lda_n_2_0 (pc := 28) d_On_feed_28 ?_
    refine g_On_36 (pc := 29) rfl d_On_feed_29 (oT) (by assumption) ?_
    refine g_On_131 (pc := 32) rfl d_On_feed_32 (hRe.1) (hRe.2.2) ?_
    refine lda_n_2_0 (pc := 35) d_On_feed_35 ?_
    refine g_On_36 (pc := 36) rfl d_On_feed_36 (oT) (by assumption) ?_
    refine g_On_128 (pc := 39) rfl d_On_feed_39 (hRe.1) ?_
    refine r_top (v := 0) (by exact hZ2 87 1 (by decide) (by decide)) ?_
    refine ldi_n_2_1 (pc := 42) d_On_feed_42 ?_
    refine r_i2b (pc := 43) d_On_feed_43 ?_
    refine r_bast (pc := 44) d_On_feed_44 (hRe.2.1) (by first | assumption | exact vp_in_nI (by omega) (by omega) | (unfold vp_in; decide)) ?_
    refine r_nmI (fun I3 hI2 => ?_)
    refine lda_n_2_0 (pc := 45) d_On_feed_45 ?_
    refine g_On_36 (pc := 46) rfl d_On_feed_46 (oT) (by assumption) ?_
    refine r_dup (pc := 49) d_On_feed_49 rfl ?_
    refine g_On_128 (pc := 50) rfl d_On_feed_50 (hRe.1) ?_
    refine r_top (v := 0) (by rw [hI2, qup_o (by decide)]; exact hZ2 87 1 (by decide) (by decide)) ?_
    refine r_iconst (pc := 53) (v := 1) d_On_feed_53 rfl ?_
    refine r_iadd (pc := 54) d_On_feed_54 ?_
    refine r_top (v := 1) (by decide) ?_
    refine p_On_128 (pc := 55) rfl d_On_feed_55 (hRe.1) ?_
    refine r_nmI (fun I5 hI4 => ?_)
    refine lda_n_2_0 (pc := 58) d_On_feed_58 ?_
    refine g_On_36 (pc := 59) rfl d_On_feed_59 (oT) (by assumption) ?_
    refine g_On_128 (pc := 62) rfl d_On_feed_62 (hRe.1) ?_
    refine r_top (v := 1) (by rw [hI4, qup_at]) ?_
    exact r_iret d_On_feed_65 rfl (by omega) (by omega) ⟨(by rw [a_On_feed, if_neg c1]), rfl, fun a ha => by rw [hI4, qup_row (by omega), hI2, qup_row (by omega)]⟩
  · refine r_bipush (pc := 10) (v := (-2)) d_On_feed_10 rfl ?_
    exact r_iret d_On_feed_12 rfl (by omega) (by omega) ⟨(by rw [a_On_feed, if_pos c1]), rfl, fun _ _ => rfl⟩
def a_On_turn (p : Int32) : Int32 := (-1)
theorem k_On_turn {p : Int32} (hC : qFc S I) : qMet E y_On_turn b_On_turn 3 (some .int) 2 0 0 [.ref (qb E + 0), .int p] S I J (fun r S' I' J' => r = some (.int (a_On_turn p)) ∧ S = S' ∧ ∀ a, 114 ≤ a → I' a = I a) := by
  obtain ⟨hO, hZ, hZ2, hZ3, hZ4, hTs, hTz, hMz⟩ := hC
  have hO2 := hO
  obtain ⟨oT, oR0, oR1, oR2, oR3, oR5, oR6, oR8, oR9, oR10, hI1, hN, hA, hM3, hRe, hBl, hRo, hAc, tA, tR, tT⟩ := hO2
  have hN0 := hN
  obtain ⟨mT, mA1, mA2, mR0, mR2, mR5, mR6, mR7, mR8, nS, nP, nB, nI0, mRp, mMp⟩ := hN
  refine qMet.of (L := [some (.ref (qb E + 0)), some (.int p), none]) (by decide +kernel) (Nat.le_of_ble_eq_true rfl) rfl ?_
  refine lda_n_3_0 (pc := 0) d_On_turn_0 ?_
  refine ldi_n_3_1 (pc := 1) d_On_turn_1 ?_
  refine r_callV (pc := 2) (As := [.int p]) (k := 8) (N := 11) (T := T_On) k_On_82 im_On_isMourner se_On_isMourner rfl (by decide) rfl (by decide) d_On_turn_2 oT (c_On_isMourner hO) rfl (Nat.le_of_ble_eq_true rfl) (by omega) (by omega) (by omega) (fun v' S' I' J' hq => ?_)
  obtain ⟨rfl, rfl, rfl, rfl⟩ := hq
  refine r_top (v := 0) (by rw [show I 6 1 = 0 from (by exact hZ 6 1 (by decide))]; exact qwithin_e (by decide)) ?_
  refine r_if_ne (pc := 5) (tgt := 10) d_On_turn_5 (by decide) (fun c => absurd (by decide) c) (fun _ => ?_)
  refine r_iconst (pc := 8) (v := (-1)) d_On_turn_8 rfl ?_
  exact r_iret d_On_turn_9 rfl (by omega) (by omega) ⟨rfl, rfl, fun _ _ => rfl⟩
def a_On_see (p : Int32) (x : Int32) (n : Int32) : Int32 := (if p = (-1) then 0 else (-1))
theorem k_On_see {p x n : Int32} (hC : qFc S I) : qMet E y_On_see b_On_see 4 (some .int) 2 0 0 [.ref (qb E + 0), .int p, .int x, .int n] S I J (fun r S' I' J' => r = some (.int (a_On_see p x n)) ∧ S = S' ∧ ∀ a, 114 ≤ a → I' a = I a) := by
  obtain ⟨hO, hZ, hZ2, hZ3, hZ4, hTs, hTz, hMz⟩ := hC
  have hO2 := hO
  obtain ⟨oT, oR0, oR1, oR2, oR3, oR5, oR6, oR8, oR9, oR10, hI1, hN, hA, hM3, hRe, hBl, hRo, hAc, tA, tR, tT⟩ := hO2
  have hN0 := hN
  obtain ⟨mT, mA1, mA2, mR0, mR2, mR5, mR6, mR7, mR8, nS, nP, nB, nI0, mRp, mMp⟩ := hN
  refine qMet.of (L := [some (.ref (qb E + 0)), some (.int p), some (.int x), some (.int n)]) (by decide +kernel) (Nat.le_of_ble_eq_true rfl) rfl ?_
  refine ldi_n_4_1 (pc := 0) d_On_see_0 ?_
  refine r_iconst (pc := 1) (v := (-1)) d_On_see_1 rfl ?_
  refine r_icmp_ne (pc := 2) (tgt := 18) d_On_see_2 (by decide) (fun c1 => ?_) (fun c1 => ?_)
  · refine lda_n_4_0 (pc := 18) d_On_see_18 ?_
    refine ldi_n_4_1 (pc := 19) d_On_see_19 ?_
    refine r_callV (pc := 20) (As := [.int p]) (k := 8) (N := 11) (T := T_On) k_On_82 im_On_isMourner se_On_isMourner rfl (by decide) rfl (by decide) d_On_see_20 oT (c_On_isMourner hO) rfl (Nat.le_of_ble_eq_true rfl) (by omega) (by omega) (by omega) (fun v' S' I' J' hq => ?_)
    obtain ⟨rfl, rfl, rfl, rfl⟩ := hq
    refine r_top (v := 0) (by rw [show I 6 1 = 0 from (by exact hZ 6 1 (by decide))]; exact qwithin_e (by decide)) ?_
    refine r_if_ne (pc := 23) (tgt := 28) d_On_see_23 (by decide) (fun c => absurd (by decide) c) (fun _ => ?_)
    refine r_iconst (pc := 26) (v := (-1)) d_On_see_26 rfl ?_
    exact r_iret d_On_see_27 rfl (by omega) (by omega) ⟨(by rw [a_On_see, if_neg c1]), rfl, fun _ _ => rfl⟩
  · refine lda_n_4_0 (pc := 5) d_On_see_5 ?_
    refine g_On_23 (pc := 6) rfl d_On_see_6 (oT) (by assumption) ?_
    refine g_On_201 (pc := 9) rfl d_On_see_9 (mT) (by assumption) ?_
    refine r_iconst (pc := 12) (v := 0) d_On_see_12 rfl ?_
    refine p_On_205 (pc := 13) rfl d_On_see_13 (nS.1) ?_
    refine r_nmI (fun I3 hI2 => ?_)
    refine r_iconst (pc := 16) (v := 0) d_On_see_16 rfl ?_
    exact r_iret d_On_see_17 rfl (by omega) (by omega) ⟨(by rw [a_On_see, if_pos c1]), rfl, fun a ha => by rw [hI2, qup_row (by omega)]⟩
def a_On_can (p : Int32) (x : Int32) (y : Int32) : Int32 := (-1)
theorem k_On_can {p x y : Int32} (hC : qFc S I) : qMet E y_On_can b_On_can 9 (some .int) 2 0 0 [.ref (qb E + 0), .int p, .int x, .int y] S I J (fun r S' I' J' => r = some (.int (a_On_can p x y)) ∧ S = S' ∧ ∀ a, 114 ≤ a → I' a = I a) := by
  obtain ⟨hO, hZ, hZ2, hZ3, hZ4, hTs, hTz, hMz⟩ := hC
  have hO2 := hO
  obtain ⟨oT, oR0, oR1, oR2, oR3, oR5, oR6, oR8, oR9, oR10, hI1, hN, hA, hM3, hRe, hBl, hRo, hAc, tA, tR, tT⟩ := hO2
  have hN0 := hN
  obtain ⟨mT, mA1, mA2, mR0, mR2, mR5, mR6, mR7, mR8, nS, nP, nB, nI0, mRp, mMp⟩ := hN
  refine qMet.of (L := [some (.ref (qb E + 0)), some (.int p), some (.int x), some (.int y), none, none, none, none, none]) (by decide +kernel) (Nat.le_of_ble_eq_true rfl) rfl ?_
  refine lda_n_9_0 (pc := 0) d_On_can_0 ?_
  refine ldi_n_9_1 (pc := 1) d_On_can_1 ?_
  refine r_callV (pc := 2) (As := [.int p]) (k := 8) (N := 11) (T := T_On) k_On_82 im_On_isMourner se_On_isMourner rfl (by decide) rfl (by decide) d_On_can_2 oT (c_On_isMourner hO) rfl (Nat.le_of_ble_eq_true rfl) (by omega) (by omega) (by omega) (fun v' S' I' J' hq => ?_)
  obtain ⟨rfl, rfl, rfl, rfl⟩ := hq
  refine r_top (v := 0) (by rw [show I 6 1 = 0 from (by exact hZ 6 1 (by decide))]; exact qwithin_e (by decide)) ?_
  refine r_if_eq (pc := 5) (tgt := 26) d_On_can_5 (by decide) (fun _ => ?_) (fun c => absurd (by decide) c)
  refine r_iconst (pc := 26) (v := (-1)) d_On_can_26 rfl ?_
  exact r_iret d_On_can_27 rfl (by omega) (by omega) ⟨rfl, rfl, fun _ _ => rfl⟩
def a_On_plan (x : Int32) (p : Int32) : Int32 := (if x = (-1) then 0 else (if (qwithin x 0 3) = 0 then (-1) else (if x = 0 then 1 else (-1))))
theorem k_On_plan {x p : Int32} (hC : qFc S I) : qMet E y_On_plan b_On_plan 3 (some .int) 2 0 0 [.ref (qb E + 0), .int x, .int p] S I J (fun r S' I' J' => r = some (.int (a_On_plan x p)) ∧ S = S' ∧ ∀ a, 114 ≤ a → I' a = I a) := by
  obtain ⟨hO, hZ, hZ2, hZ3, hZ4, hTs, hTz, hMz⟩ := hC
  have hO2 := hO
  obtain ⟨oT, oR0, oR1, oR2, oR3, oR5, oR6, oR8, oR9, oR10, hI1, hN, hA, hM3, hRe, hBl, hRo, hAc, tA, tR, tT⟩ := hO2
  have hN0 := hN
  obtain ⟨mT, mA1, mA2, mR0, mR2, mR5, mR6, mR7, mR8, nS, nP, nB, nI0, mRp, mMp⟩ := hN
  refine qMet.of (L := [some (.ref (qb E + 0)), some (.int x), some (.int p)]) (by decide +kernel) (Nat.le_of_ble_eq_true rfl) rfl ?_
  refine ldi_n_3_1 (pc := 0) d_On_plan_0 ?_
  refine r_iconst (pc := 1) (v := (-1)) d_On_plan_1 rfl ?_
  refine r_icmp_ne (pc := 2) (tgt := 18) d_On_plan_2 (by decide) (fun c1 => ?_) (fun c1 => ?_)
  · refine ldi_n_3_1 (pc := 18) d_On_plan_18 ?_
    refine r_iconst (pc := 19) (v := 0) d_On_plan_19 rfl ?_
    refine r_iconst (pc := 20) (v := 3) d_On_plan_20 rfl ?_
    refine r_callS (pc := 21) (As := [.int x, .int 0, .int 3]) k_On_64 sw_On_within rfl (by decide) d_On_plan_21 (c_On_within _ _ _) rfl (Nat.le_of_ble_eq_true rfl) (by omega) (by omega) (by omega) (fun v' S' I' J' hq => ?_)
    obtain ⟨rfl, rfl, rfl, rfl⟩ := hq
    refine r_if_eq (pc := 24) (tgt := 39) d_On_plan_24 (by decide) (fun c2 => ?_) (fun c2 => ?_)
    · refine r_iconst (pc := 39) (v := (-1)) d_On_plan_39 rfl ?_
      exact r_iret d_On_plan_40 rfl (by omega) (by omega) ⟨(by rw [a_On_plan, if_neg c1, if_pos c2]), rfl, fun _ _ => rfl⟩
    · refine ldi_n_3_1 (pc := 27) d_On_plan_27 ?_
      refine r_if_eq (pc := 28) (tgt := 41) d_On_plan_28 (by decide) (fun c3 => ?_) (fun c3 => ?_)
      · refine lda_n_3_0 (pc := 41) d_On_plan_41 ?_
        refine g_On_23 (pc := 42) rfl d_On_plan_42 (oT) (by assumption) ?_
        refine g_On_232 (pc := 45) rfl d_On_plan_45 (mT) (by assumption) ?_
        refine ldi_n_3_1 (pc := 48) d_On_plan_48 ?_
        refine ldi_n_3_2 (pc := 49) d_On_plan_49 ?_
        refine r_iconst (pc := 50) (v := 0) d_On_plan_50 rfl ?_
        refine r_callVN (pc := 51) (As := [.int x, .int p, .int 0]) (k := 4) (N := 4) (T := T_No) k_On_208 im_No_add se_No_add rfl (by decide) rfl (by decide) d_On_plan_51 nP.1 (c_No_add (k := 0) nP (by rw [q0.symm]; exact (by exact hZ (6 + 7) 3 (by decide))) (by decide) (by decide)) rfl (Nat.le_of_ble_eq_true rfl) (by omega) (by omega) (by omega) (fun v' S' I1n J' hq => ?_)
        obtain ⟨rfl, rfl, hI1n, rfl⟩ := hq
        refine r_top (v := 1) (by decide) ?_
        exact r_iret d_On_plan_54 rfl (by omega) (by omega) ⟨(by rw [a_On_plan, if_neg c1, if_neg c2, if_pos c3]), rfl, fun a ha => by rw [hI1n, if_pos (by decide), qadd_row (by omega)]⟩
      · refine lda_n_3_0 (pc := 31) d_On_plan_31 ?_
        refine ldi_n_3_2 (pc := 32) d_On_plan_32 ?_
        refine r_callV (pc := 33) (As := [.int p]) (k := 8) (N := 11) (T := T_On) k_On_82 im_On_isMourner se_On_isMourner rfl (by decide) rfl (by decide) d_On_plan_33 oT (c_On_isMourner hO) rfl (Nat.le_of_ble_eq_true rfl) (by omega) (by omega) (by omega) (fun v' S' I' J' hq => ?_)
        obtain ⟨rfl, rfl, rfl, rfl⟩ := hq
        refine r_top (v := 0) (by rw [show I 6 1 = 0 from (by exact hZ 6 1 (by decide))]; exact qwithin_e (by decide)) ?_
        refine r_if_ne (pc := 36) (tgt := 41) d_On_plan_36 (by decide) (fun c => absurd (by decide) c) (fun _ => ?_)
        refine r_iconst (pc := 39) (v := (-1)) d_On_plan_39 rfl ?_
        exact r_iret d_On_plan_40 rfl (by omega) (by omega) ⟨(by rw [a_On_plan, if_neg c1, if_neg c2, if_neg c3]), rfl, fun _ _ => rfl⟩
  · refine lda_n_3_0 (pc := 5) d_On_plan_5 ?_
    refine g_On_23 (pc := 6) rfl d_On_plan_6 (oT) (by assumption) ?_
    refine g_On_232 (pc := 9) rfl d_On_plan_9 (mT) (by assumption) ?_
    refine r_iconst (pc := 12) (v := 0) d_On_plan_12 rfl ?_
    refine p_On_205 (pc := 13) rfl d_On_plan_13 (nP.1) ?_
    refine r_nmI (fun I5 hI4 => ?_)
    refine r_iconst (pc := 16) (v := 0) d_On_plan_16 rfl ?_
    exact r_iret d_On_plan_17 rfl (by omega) (by omega) ⟨(by rw [a_On_plan, if_pos c1]), rfl, fun a ha => by rw [hI4, qup_row (by omega)]⟩
def a_On_book (p : Int32) (x : Int32) : Int32 := (if p = (-1) then 0 else (-1))
theorem k_On_book {p x : Int32} (hC : qFc S I) : qMet E y_On_book b_On_book 3 (some .int) 2 0 0 [.ref (qb E + 0), .int p, .int x] S I J (fun r S' I' J' => r = some (.int (a_On_book p x)) ∧ S = S' ∧ ∀ a, 114 ≤ a → I' a = I a) := by
  obtain ⟨hO, hZ, hZ2, hZ3, hZ4, hTs, hTz, hMz⟩ := hC
  have hO2 := hO
  obtain ⟨oT, oR0, oR1, oR2, oR3, oR5, oR6, oR8, oR9, oR10, hI1, hN, hA, hM3, hRe, hBl, hRo, hAc, tA, tR, tT⟩ := hO2
  have hN0 := hN
  obtain ⟨mT, mA1, mA2, mR0, mR2, mR5, mR6, mR7, mR8, nS, nP, nB, nI0, mRp, mMp⟩ := hN
  refine qMet.of (L := [some (.ref (qb E + 0)), some (.int p), some (.int x)]) (by decide +kernel) (Nat.le_of_ble_eq_true rfl) rfl ?_
  refine ldi_n_3_1 (pc := 0) d_On_book_0 ?_
  refine r_iconst (pc := 1) (v := (-1)) d_On_book_1 rfl ?_
  refine r_icmp_ne (pc := 2) (tgt := 18) d_On_book_2 (by decide) (fun c1 => ?_) (fun c1 => ?_)
  · refine lda_n_3_0 (pc := 18) d_On_book_18 ?_
    refine ldi_n_3_1 (pc := 19) d_On_book_19 ?_
    refine r_callV (pc := 20) (As := [.int p]) (k := 8) (N := 11) (T := T_On) k_On_82 im_On_isMourner se_On_isMourner rfl (by decide) rfl (by decide) d_On_book_20 oT (c_On_isMourner hO) rfl (Nat.le_of_ble_eq_true rfl) (by omega) (by omega) (by omega) (fun v' S' I' J' hq => ?_)
    obtain ⟨rfl, rfl, rfl, rfl⟩ := hq
    refine r_top (v := 0) (by rw [show I 6 1 = 0 from (by exact hZ 6 1 (by decide))]; exact qwithin_e (by decide)) ?_
    refine r_if_ne (pc := 23) (tgt := 28) d_On_book_23 (by decide) (fun c => absurd (by decide) c) (fun _ => ?_)
    refine r_iconst (pc := 26) (v := (-1)) d_On_book_26 rfl ?_
    exact r_iret d_On_book_27 rfl (by omega) (by omega) ⟨(by rw [a_On_book, if_neg c1]), rfl, fun _ _ => rfl⟩
  · refine lda_n_3_0 (pc := 5) d_On_book_5 ?_
    refine g_On_23 (pc := 6) rfl d_On_book_6 (oT) (by assumption) ?_
    refine g_On_238 (pc := 9) rfl d_On_book_9 (mT) (by assumption) ?_
    refine r_iconst (pc := 12) (v := 0) d_On_book_12 rfl ?_
    refine p_On_205 (pc := 13) rfl d_On_book_13 (nB.1) ?_
    refine r_nmI (fun I3 hI2 => ?_)
    refine r_iconst (pc := 16) (v := 0) d_On_book_16 rfl ?_
    exact r_iret d_On_book_17 rfl (by omega) (by omega) ⟨(by rw [a_On_book, if_pos c1]), rfl, fun a ha => by rw [hI2, qup_row (by omega)]⟩
def a_On_looked  : Int32 := (-5)
theorem k_On_looked  (hC : qFc S I) : qMet E y_On_looked b_On_looked 3 (some .int) 0 0 0 [.ref (qb E + 0)] S I J (fun r S' I' J' => r = some (.int (a_On_looked)) ∧ S = S' ∧ ∀ a, 114 ≤ a → I' a = I a) := by
  obtain ⟨hO, hZ, hZ2, hZ3, hZ4, hTs, hTz, hMz⟩ := hC
  have hO2 := hO
  obtain ⟨oT, oR0, oR1, oR2, oR3, oR5, oR6, oR8, oR9, oR10, hI1, hN, hA, hM3, hRe, hBl, hRo, hAc, tA, tR, tT⟩ := hO2
  have hN0 := hN
  obtain ⟨mT, mA1, mA2, mR0, mR2, mR5, mR6, mR7, mR8, nS, nP, nB, nI0, mRp, mMp⟩ := hN
  refine qMet.of (L := [some (.ref (qb E + 0)), none, none]) (by decide +kernel) (Nat.le_of_ble_eq_true rfl) rfl ?_
  refine r_iconst (pc := 0) (v := 0) d_On_looked_0 rfl ?_
  refine sti_n_3_1 (pc := 1) d_On_looked_1 rfl ?_
  refine ldi_n_3_1 (pc := 2) d_On_looked_2 ?_
  refine lda_n_3_0 (pc := 3) d_On_looked_3 ?_
  refine g_On_23 (pc := 4) rfl d_On_looked_4 (oT) (by assumption) ?_
  refine g_On_238 (pc := 7) rfl d_On_looked_7 (mT) (by assumption) ?_
  refine g_On_205 (pc := 10) rfl d_On_looked_10 (nB.1) ?_
  refine r_top (v := 0) (by exact hZ (6 + 11) 3 (by decide)) ?_
  refine r_icmp_ge (pc := 13) (tgt := 72) d_On_looked_13 (by decide) (fun _ => ?_) (fun c => absurd (by decide) c)
  refine r_bipush (pc := 72) (v := (-5)) d_On_looked_72 rfl ?_
  exact r_iret d_On_looked_74 rfl (by omega) (by omega) ⟨rfl, rfl, fun _ _ => rfl⟩
def a_On_act (p : Int32) (x : Int32) (y : Int32) : Int32 := 0
theorem k_On_act {p x y : Int32} (hC : qFc S I) : qMet E y_On_act b_On_act 5 (some .int) 2 0 0 [.ref (qb E + 0), .int p, .int x, .int y] S I J (fun r S' I' J' => r = some (.int (a_On_act p x y)) ∧ S = S' ∧ ∀ a, 114 ≤ a → I' a = I a) := by
  obtain ⟨hO, hZ, hZ2, hZ3, hZ4, hTs, hTz, hMz⟩ := hC
  have hO2 := hO
  obtain ⟨oT, oR0, oR1, oR2, oR3, oR5, oR6, oR8, oR9, oR10, hI1, hN, hA, hM3, hRe, hBl, hRo, hAc, tA, tR, tT⟩ := hO2
  have hN0 := hN
  obtain ⟨mT, mA1, mA2, mR0, mR2, mR5, mR6, mR7, mR8, nS, nP, nB, nI0, mRp, mMp⟩ := hN
  refine qMet.of (L := [some (.ref (qb E + 0)), some (.int p), some (.int x), some (.int y), none]) (by decide +kernel) (Nat.le_of_ble_eq_true rfl) rfl ?_
  refine lda_n_5_0 (pc := 0) d_On_act_0 ?_
  refine g_On_53 (pc := 1) rfl d_On_act_1 (oT) (by assumption) ?_
  refine r_iconst (pc := 4) (v := 0) d_On_act_4 rfl ?_
  refine p_On_261 (pc := 5) rfl d_On_act_5 (hAc.1) ?_
  refine r_nmI (fun I2 hI1 => ?_)
  refine lda_n_5_0 (pc := 8) d_On_act_8 ?_
  refine ldi_n_5_1 (pc := 9) d_On_act_9 ?_
  refine r_callV (pc := 10) (As := [.int p]) (k := 8) (N := 11) (T := T_On) k_On_82 im_On_isMourner se_On_isMourner rfl (by decide) rfl (by decide) d_On_act_10 oT (c_On_isMourner hO) rfl (Nat.le_of_ble_eq_true rfl) (by omega) (by omega) (by omega) (fun v' S' I' J' hq => ?_)
  obtain ⟨rfl, rfl, rfl, rfl⟩ := hq
  refine r_top (v := 0) (by rw [show I2 6 1 = 0 from (by rw [hI1, qup_o (by decide)]; exact hZ 6 1 (by decide))]; exact qwithin_e (by decide)) ?_
  refine r_if_eq (pc := 13) (tgt := 25) d_On_act_13 (by decide) (fun _ => ?_) (fun c => absurd (by decide) c)
  refine r_iconst (pc := 25) (v := 0) d_On_act_25 rfl ?_
  exact r_iret d_On_act_26 rfl (by omega) (by omega) ⟨rfl, rfl, fun a ha => by rw [hI1, qup_row (by omega)]⟩
def a_On_trace (x : Int32) : Int32 := (if (qwithin x 0 19) = 0 then (-1) else (-1))
theorem k_On_trace {x : Int32} (hC : qFc S I) : qMet E y_On_trace b_On_trace 2 (some .int) 1 0 0 [.ref (qb E + 0), .int x] S I J (fun r S' I' J' => r = some (.int (a_On_trace x)) ∧ S = S' ∧ ∀ a, 114 ≤ a → I' a = I a) := by
  obtain ⟨hO, hZ, hZ2, hZ3, hZ4, hTs, hTz, hMz⟩ := hC
  have hO2 := hO
  obtain ⟨oT, oR0, oR1, oR2, oR3, oR5, oR6, oR8, oR9, oR10, hI1, hN, hA, hM3, hRe, hBl, hRo, hAc, tA, tR, tT⟩ := hO2
  have hN0 := hN
  obtain ⟨mT, mA1, mA2, mR0, mR2, mR5, mR6, mR7, mR8, nS, nP, nB, nI0, mRp, mMp⟩ := hN
  refine qMet.of (L := [some (.ref (qb E + 0)), some (.int x)]) (by decide +kernel) (Nat.le_of_ble_eq_true rfl) rfl ?_
  refine ldi_n_2_1 (pc := 0) d_On_trace_0 ?_
  refine r_iconst (pc := 1) (v := 0) d_On_trace_1 rfl ?_
  refine r_bipush (pc := 2) (v := 19) d_On_trace_2 rfl ?_
  refine r_callS (pc := 4) (As := [.int x, .int 0, .int 19]) k_On_64 sw_On_within rfl (by decide) d_On_trace_4 (c_On_within _ _ _) rfl (Nat.le_of_ble_eq_true rfl) (by omega) (by omega) (by omega) (fun v' S' I' J' hq => ?_)
  obtain ⟨rfl, rfl, rfl, rfl⟩ := hq
  refine r_if_eq (pc := 7) (tgt := 33) d_On_trace_7 (by decide) (fun c1 => ?_) (fun c1 => ?_)
  · refine r_iconst (pc := 33) (v := (-1)) d_On_trace_33 rfl ?_
    exact r_iret d_On_trace_34 rfl (by omega) (by omega) ⟨(by rw [a_On_trace, if_pos c1]), rfl, fun _ _ => rfl⟩
  · refine ldi_n_2_1 (pc := 10) d_On_trace_10 ?_
    refine lda_n_2_0 (pc := 11) d_On_trace_11 ?_
    refine g_On_53 (pc := 12) rfl d_On_trace_12 (oT) (by assumption) ?_
    refine g_On_261 (pc := 15) rfl d_On_trace_15 (hAc.1) ?_
    refine r_top (v := 0) (by exact hZ2 99 1 (by decide) (by decide)) ?_
    refine r_icmp_ge (pc := 18) (tgt := 33) d_On_trace_18 (by decide) (fun _ => ?_) (fun c => absurd (qwithin_y c1).1 c)
    refine r_iconst (pc := 33) (v := (-1)) d_On_trace_33 rfl ?_
    exact r_iret d_On_trace_34 rfl (by omega) (by omega) ⟨(by rw [a_On_trace, if_neg c1]), rfl, fun _ _ => rfl⟩
def a_On_taken (p : Int32) (x : Int32) : Int32 := (if (qwithin x 0 6) = 0 then (-2) else (-11))
theorem k_On_taken {p x : Int32} (hC : qFc S I) : qMet E y_On_taken b_On_taken 6 (some .int) 2 0 0 [.ref (qb E + 0), .int p, .int x] S I J (fun r S' I' J' => r = some (.int (a_On_taken p x)) ∧ S = S' ∧ ∀ a, 114 ≤ a → I' a = I a) := by
  obtain ⟨hO, hZ, hZ2, hZ3, hZ4, hTs, hTz, hMz⟩ := hC
  have hO2 := hO
  obtain ⟨oT, oR0, oR1, oR2, oR3, oR5, oR6, oR8, oR9, oR10, hI1, hN, hA, hM3, hRe, hBl, hRo, hAc, tA, tR, tT⟩ := hO2
  have hN0 := hN
  obtain ⟨mT, mA1, mA2, mR0, mR2, mR5, mR6, mR7, mR8, nS, nP, nB, nI0, mRp, mMp⟩ := hN
  refine qMet.of (L := [some (.ref (qb E + 0)), some (.int p), some (.int x), none, none, none]) (by decide +kernel) (Nat.le_of_ble_eq_true rfl) rfl ?_
  refine ldi_n_6_2 (pc := 0) d_On_taken_0 ?_
  refine r_iconst (pc := 1) (v := 0) d_On_taken_1 rfl ?_
  refine r_bipush (pc := 2) (v := 6) d_On_taken_2 rfl ?_
  refine r_callS (pc := 4) (As := [.int x, .int 0, .int 6]) k_On_64 sw_On_within rfl (by decide) d_On_taken_4 (c_On_within _ _ _) rfl (Nat.le_of_ble_eq_true rfl) (by omega) (by omega) (by omega) (fun v' S' I' J' hq => ?_)
  obtain ⟨rfl, rfl, rfl, rfl⟩ := hq
  refine r_if_ne (pc := 7) (tgt := 13) d_On_taken_7 (by decide) (fun c1 => ?_) (fun c1 => ?_)
  · refine lda_n_6_0 (pc := 13) d_On_taken_13 ?_
    refine ldi_n_6_1 (pc := 14) d_On_taken_14 ?_
    refine r_callV (pc := 15) (As := [.int p]) (k := 8) (N := 11) (T := T_On) k_On_82 im_On_isMourner se_On_isMourner rfl (by decide) rfl (by decide) d_On_taken_15 oT (c_On_isMourner hO) rfl (Nat.le_of_ble_eq_true rfl) (by omega) (by omega) (by omega) (fun v' S' I' J' hq => ?_)
    obtain ⟨rfl, rfl, rfl, rfl⟩ := hq
    refine r_top (v := 0) (by rw [show I 6 1 = 0 from (by exact hZ 6 1 (by decide))]; exact qwithin_e (by decide)) ?_
    refine r_if_ne (pc := 18) (tgt := 24) d_On_taken_18 (by decide) (fun c => absurd (by decide) c) (fun _ => ?_)
    refine r_bipush (pc := 21) (v := (-11)) d_On_taken_21 rfl ?_
    exact r_iret d_On_taken_23 rfl (by omega) (by omega) ⟨(by rw [a_On_taken, if_neg c1]), rfl, fun _ _ => rfl⟩
  · refine r_bipush (pc := 10) (v := (-2)) d_On_taken_10 rfl ?_
    exact r_iret d_On_taken_12 rfl (by omega) (by omega) ⟨(by rw [a_On_taken, if_pos c1]), rfl, fun _ _ => rfl⟩
def a_On_count (x : Int32) : Int32 := (if x = 0 then 0 else (if x = 1 then 0 else (if x = 2 then 0 else (if x = 3 then 0 else (if x = 4 then 0 else (if x = 5 then 0 else (if x = 6 then 0 else (if x = 7 then 0 else (-2)))))))))
theorem k_On_count {x : Int32} (hC : qFc S I) : qMet E y_On_count b_On_count 2 (some .int) 0 0 0 [.ref (qb E + 0), .int x] S I J (fun r S' I' J' => r = some (.int (a_On_count x)) ∧ S = S' ∧ ∀ a, 114 ≤ a → I' a = I a) := by
  obtain ⟨hO, hZ, hZ2, hZ3, hZ4, hTs, hTz, hMz⟩ := hC
  have hO2 := hO
  obtain ⟨oT, oR0, oR1, oR2, oR3, oR5, oR6, oR8, oR9, oR10, hI1, hN, hA, hM3, hRe, hBl, hRo, hAc, tA, tR, tT⟩ := hO2
  have hN0 := hN
  obtain ⟨mT, mA1, mA2, mR0, mR2, mR5, mR6, mR7, mR8, nS, nP, nB, nI0, mRp, mMp⟩ := hN
  refine qMet.of (L := [some (.ref (qb E + 0)), some (.int x)]) (by decide +kernel) (Nat.le_of_ble_eq_true rfl) rfl ?_
  refine ldi_n_2_1 (pc := 0) d_On_count_0 ?_
  by_cases e1 : x = 0
  · refine r_tableIn (pc := 1) (off := 47) (tgt := 48) d_On_count_1 (by rw [e1]; decide) (by rw [e1]; decide) (by rw [e1]; decide +kernel) (by decide) ?_
    refine lda_n_2_0 (pc := 48) d_On_count_48 ?_
    refine g_On_23 (pc := 49) rfl d_On_count_49 (oT) (by assumption) ?_
    refine g_On_68 (pc := 52) rfl d_On_count_52 (mT) ?_
    refine r_top (v := 0) (by exact hZ 6 1 (by decide)) ?_
    exact r_iret d_On_count_55 rfl (by omega) (by omega) ⟨(by rw [a_On_count, if_pos e1]), rfl, fun _ _ => rfl⟩
  · by_cases e2 : x = 1
    · refine r_tableIn (pc := 1) (off := 55) (tgt := 56) d_On_count_1 (by rw [e2]; decide) (by rw [e2]; decide) (by rw [e2]; decide +kernel) (by decide) ?_
      refine lda_n_2_0 (pc := 56) d_On_count_56 ?_
      refine g_On_135 (pc := 57) rfl d_On_count_57 (oT) ?_
      refine r_top (v := 0) (by exact hZ 0 7 (by decide)) ?_
      exact r_iret d_On_count_60 rfl (by omega) (by omega) ⟨(by rw [a_On_count, if_neg e1, if_pos e2]), rfl, fun _ _ => rfl⟩
    · by_cases e3 : x = 2
      · refine r_tableIn (pc := 1) (off := 60) (tgt := 61) d_On_count_1 (by rw [e3]; decide) (by rw [e3]; decide) (by rw [e3]; decide +kernel) (by decide) ?_
        refine lda_n_2_0 (pc := 61) d_On_count_61 ?_
        refine g_On_23 (pc := 62) rfl d_On_count_62 (oT) (by assumption) ?_
        refine g_On_118 (pc := 65) rfl d_On_count_65 (mT) ?_
        refine r_top (v := 0) (by exact hZ 6 3 (by decide)) ?_
        exact r_iret d_On_count_68 rfl (by omega) (by omega) ⟨(by rw [a_On_count, if_neg e1, if_neg e2, if_pos e3]), rfl, fun _ _ => rfl⟩
      · by_cases e4 : x = 3
        · refine r_tableIn (pc := 1) (off := 68) (tgt := 69) d_On_count_1 (by rw [e4]; decide) (by rw [e4]; decide) (by rw [e4]; decide +kernel) (by decide) ?_
          refine lda_n_2_0 (pc := 69) d_On_count_69 ?_
          refine g_On_23 (pc := 70) rfl d_On_count_70 (oT) (by assumption) ?_
          refine g_On_201 (pc := 73) rfl d_On_count_73 (mT) (by assumption) ?_
          refine g_On_205 (pc := 76) rfl d_On_count_76 (nS.1) ?_
          refine r_top (v := 0) (by exact hZ (6 + 3) 3 (by decide)) ?_
          exact r_iret d_On_count_79 rfl (by omega) (by omega) ⟨(by rw [a_On_count, if_neg e1, if_neg e2, if_neg e3, if_pos e4]), rfl, fun _ _ => rfl⟩
        · by_cases e5 : x = 4
          · refine r_tableIn (pc := 1) (off := 79) (tgt := 80) d_On_count_1 (by rw [e5]; decide) (by rw [e5]; decide) (by rw [e5]; decide +kernel) (by decide) ?_
            refine lda_n_2_0 (pc := 80) d_On_count_80 ?_
            refine g_On_23 (pc := 81) rfl d_On_count_81 (oT) (by assumption) ?_
            refine g_On_232 (pc := 84) rfl d_On_count_84 (mT) (by assumption) ?_
            refine g_On_205 (pc := 87) rfl d_On_count_87 (nP.1) ?_
            refine r_top (v := 0) (by exact hZ (6 + 7) 3 (by decide)) ?_
            exact r_iret d_On_count_90 rfl (by omega) (by omega) ⟨(by rw [a_On_count, if_neg e1, if_neg e2, if_neg e3, if_neg e4, if_pos e5]), rfl, fun _ _ => rfl⟩
          · by_cases e6 : x = 5
            · refine r_tableIn (pc := 1) (off := 90) (tgt := 91) d_On_count_1 (by rw [e6]; decide) (by rw [e6]; decide) (by rw [e6]; decide +kernel) (by decide) ?_
              refine lda_n_2_0 (pc := 91) d_On_count_91 ?_
              refine g_On_23 (pc := 92) rfl d_On_count_92 (oT) (by assumption) ?_
              refine g_On_238 (pc := 95) rfl d_On_count_95 (mT) (by assumption) ?_
              refine g_On_205 (pc := 98) rfl d_On_count_98 (nB.1) ?_
              refine r_top (v := 0) (by exact hZ (6 + 11) 3 (by decide)) ?_
              exact r_iret d_On_count_101 rfl (by omega) (by omega) ⟨(by rw [a_On_count, if_neg e1, if_neg e2, if_neg e3, if_neg e4, if_neg e5, if_pos e6]), rfl, fun _ _ => rfl⟩
            · by_cases e7 : x = 6
              · refine r_tableIn (pc := 1) (off := 101) (tgt := 102) d_On_count_1 (by rw [e7]; decide) (by rw [e7]; decide) (by rw [e7]; decide +kernel) (by decide) ?_
                refine lda_n_2_0 (pc := 102) d_On_count_102 ?_
                refine g_On_36 (pc := 103) rfl d_On_count_103 (oT) (by assumption) ?_
                refine g_On_128 (pc := 106) rfl d_On_count_106 (hRe.1) ?_
                refine r_top (v := 0) (by exact hZ2 87 1 (by decide) (by decide)) ?_
                exact r_iret d_On_count_109 rfl (by omega) (by omega) ⟨(by rw [a_On_count, if_neg e1, if_neg e2, if_neg e3, if_neg e4, if_neg e5, if_neg e6, if_pos e7]), rfl, fun _ _ => rfl⟩
              · by_cases e8 : x = 7
                · refine r_tableIn (pc := 1) (off := 109) (tgt := 110) d_On_count_1 (by rw [e8]; decide) (by rw [e8]; decide) (by rw [e8]; decide +kernel) (by decide) ?_
                  refine lda_n_2_0 (pc := 110) d_On_count_110 ?_
                  refine g_On_53 (pc := 111) rfl d_On_count_111 (oT) (by assumption) ?_
                  refine g_On_261 (pc := 114) rfl d_On_count_114 (hAc.1) ?_
                  refine r_top (v := 0) (by exact hZ2 99 1 (by decide) (by decide)) ?_
                  exact r_iret d_On_count_117 rfl (by omega) (by omega) ⟨(by rw [a_On_count, if_neg e1, if_neg e2, if_neg e3, if_neg e4, if_neg e5, if_neg e6, if_neg e7, if_pos e8]), rfl, fun _ _ => rfl⟩
                · refine r_tableOut (pc := 1) (tgt := 118) d_On_count_1 (by simp only [← Int32.toInt_inj, Int32.reduceToInt] at e1 e2 e3 e4 e5 e6 e7 e8; omega) (by decide) ?_
                  refine r_bipush (pc := 118) (v := (-2)) d_On_count_118 rfl ?_
                  exact r_iret d_On_count_120 rfl (by omega) (by omega) ⟨(by rw [a_On_count, if_neg e1, if_neg e2, if_neg e3, if_neg e4, if_neg e5, if_neg e6, if_neg e7, if_neg e8]), rfl, fun _ _ => rfl⟩
def a_On_undo  : Int32 := (-3)
theorem k_On_undo  (hC : qFc S I) : qMet E y_On_undo b_On_undo 1 (some .int) 0 0 0 [.ref (qb E + 0)] S I J (fun r S' I' J' => r = some (.int (a_On_undo)) ∧ S = S' ∧ ∀ a, 114 ≤ a → I' a = I a) := by
  obtain ⟨hO, hZ, hZ2, hZ3, hZ4, hTs, hTz, hMz⟩ := hC
  have hO2 := hO
  obtain ⟨oT, oR0, oR1, oR2, oR3, oR5, oR6, oR8, oR9, oR10, hI1, hN, hA, hM3, hRe, hBl, hRo, hAc, tA, tR, tT⟩ := hO2
  have hN0 := hN
  obtain ⟨mT, mA1, mA2, mR0, mR2, mR5, mR6, mR7, mR8, nS, nP, nB, nI0, mRp, mMp⟩ := hN
  refine qMet.of (L := [some (.ref (qb E + 0))]) (by decide +kernel) (Nat.le_of_ble_eq_true rfl) rfl ?_
  refine lda_n_1_0 (pc := 0) d_On_undo_0 ?_
  refine g_On_258 (pc := 1) rfl d_On_undo_1 (oT) ?_
  refine r_top (v := 0) (by exact hZ 0 4 (by decide)) ?_
  refine r_if_ne (pc := 4) (tgt := 10) d_On_undo_4 (by decide) (fun c => absurd (by decide) c) (fun _ => ?_)
  refine r_bipush (pc := 7) (v := (-3)) d_On_undo_7 rfl ?_
  exact r_iret d_On_undo_9 rfl (by omega) (by omega) ⟨rfl, rfl, fun _ _ => rfl⟩
end ON4
