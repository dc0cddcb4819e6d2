/-! tapes on a fresh object; days -/
section ON7
variable {E : qE} {S : qSh} {I : qI} {J : qJ}
def a_On_tape (tp s n : Int32) : Int32 := if qwithin tp 0 5 = 0 then -1 else if s = -1 then 1 else if qwithin s 0 4 = 0 then -2 else if n ≤ 60 then (if 0 ≤ n then 1 else -14) else -2
theorem k_On_tape {tp s n : Int32} (hC : qFc S I) : qMet E y_On_tape b_On_tape 4 (some .int) 2 0 0 [.ref (qb E + 0), .int tp, .int s, .int n] S I J (fun r S' I' J' => r = some (.int (a_On_tape tp s n)) ∧ S = S' ∧ ∀ a, 114 ≤ a → I' a = I a) := by
  obtain ⟨hO, hZ, hZ2, hZ3, hZ4, hTs, hTz, hMz⟩ := hC
  obtain ⟨oT, oR0, oR1, oR2, oR3, oR5, oR6, oR8, oR9, oR10, hI1, hN, hA, hM3, hRe, hBl, hRo, hAc, tA, tR, tT⟩ := hO
  refine qMet.of (L := [some (.ref (qb E + 0)), some (.int tp), some (.int s), some (.int n)]) (by decide +kernel) (Nat.le_of_ble_eq_true rfl) rfl ?_
  refine ldi_n_4_1 (pc := 0) d_On_tape_0 ?_
  refine r_callS (pc := 1) (As := [.int tp]) k_On_247 sw_On_isTape rfl (by decide) d_On_tape_1 (c_On_isTape tp) rfl (Nat.le_of_ble_eq_true rfl) (by omega) (by omega) (by omega) (fun v S' I' J' hq => ?_)
  obtain ⟨rfl, rfl, rfl, rfl⟩ := hq
  refine r_if_ne (pc := 4) (tgt := 9) d_On_tape_4 (by decide) (fun c1 => ?_) (fun c1 => ?_)
  · obtain ⟨t, ht, rfl⟩ := qtape_y c1
    have hRt : qR S 101 (nI t).toNatClampNeg = some (102 + 2 * t) := by rw [qcl (by omega)]; exact tR t ht
    have hTt := tT t ht
    have hT0 := hTt.1
    have hin : vp_in (nI t) 6 := vp_in_nI ht (by omega)
    refine ldi_n_4_2 (pc := 9) d_On_tape_9 ?_
    refine r_iconst (pc := 10) (v := (-1)) d_On_tape_10 rfl ?_
    refine r_icmp_ne (pc := 11) (tgt := 27) d_On_tape_11 (by decide) (fun c2 => ?_) (fun c2 => ?_)
    · refine ldi_n_4_2 (pc := 27) d_On_tape_27 ?_
      refine r_iconst (pc := 28) (v := 0) d_On_tape_28 rfl ?_
      refine r_iconst (pc := 29) (v := 4) d_On_tape_29 rfl ?_
      refine r_callS (pc := 30) (As := [.int s, .int 0, .int 4]) k_On_64 sw_On_within rfl (by decide) d_On_tape_30 (c_On_within s 0 4) rfl (Nat.le_of_ble_eq_true rfl) (by omega) (by omega) (by omega) (fun v S' I' J' hq => ?_)
      obtain ⟨rfl, rfl, rfl, rfl⟩ := hq
      refine r_if_eq (pc := 33) (tgt := 42) d_On_tape_33 (by decide) (fun c3 => ?_) (fun c3 => ?_)
      · refine r_bipush (pc := 42) (v := (-2)) d_On_tape_42 rfl ?_
        exact r_iret d_On_tape_44 rfl (by omega) (by omega) (⟨by rw [a_On_tape, if_neg c1, if_neg c2, if_pos c3], rfl, fun _ _ => rfl⟩)
      · refine ldi_n_4_3 (pc := 36) d_On_tape_36 ?_
        refine r_bipush (pc := 37) (v := 60) d_On_tape_37 rfl ?_
        refine r_icmp_le (pc := 39) (tgt := 45) d_On_tape_39 (by decide) (fun c4 => ?_) (fun c4 => ?_)
        · refine ldi_n_4_3 (pc := 45) d_On_tape_45 ?_
          refine r_if_ge (pc := 46) (tgt := 52) d_On_tape_46 (by decide) (fun c5 => ?_) (fun c5 => ?_)
          · refine lda_n_4_0 (pc := 52) d_On_tape_52 ?_
            refine g_On_59 (pc := 53) rfl d_On_tape_53 (by assumption) (by assumption) ?_
            refine ldi_n_4_1 (pc := 56) d_On_tape_56 ?_
            refine r_aald15 (pc := 57) d_On_tape_57 (by assumption) (by first | assumption | exact vp_in_nI (by omega) (by omega) | (unfold vp_in; decide)) (by assumption) ?_
            refine ldi_n_4_2 (pc := 58) d_On_tape_58 ?_
            refine ldi_n_4_3 (pc := 59) d_On_tape_59 ?_
            refine r_callVN (pc := 60) (As := [.int s, .int n]) (k := 7) (N := 3) (T := T_Ta) k_On_277 im_Ta_becomes se_Ta_becomes rfl (by decide) rfl (by decide) d_On_tape_60 hT0 (c_Ta_becomes hTt) rfl (Nat.le_of_ble_eq_true rfl) (by omega) (by omega) (by omega) (fun r S' I' J' hq => ?_)
            obtain ⟨rfl, rfl, rfl, rfl⟩ := hq
            refine r_iconst (pc := 63) (v := 1) d_On_tape_63 rfl ?_
            exact r_iret d_On_tape_64 rfl (by omega) (by omega) (⟨by rw [a_On_tape, if_neg c1, if_neg c2, if_neg c3, if_pos c4, if_pos c5], rfl, fun a ha => by rw [qup_row (by omega), qup_row (by omega)]⟩)
          · refine r_bipush (pc := 49) (v := (-14)) d_On_tape_49 rfl ?_
            exact r_iret d_On_tape_51 rfl (by omega) (by omega) (⟨by rw [a_On_tape, if_neg c1, if_neg c2, if_neg c3, if_pos c4, if_neg c5], rfl, fun _ _ => rfl⟩)
        · refine r_bipush (pc := 42) (v := (-2)) d_On_tape_42 rfl ?_
          exact r_iret d_On_tape_44 rfl (by omega) (by omega) (⟨by rw [a_On_tape, if_neg c1, if_neg c2, if_neg c3, if_neg c4], rfl, fun _ _ => rfl⟩)
    · refine lda_n_4_0 (pc := 14) d_On_tape_14 ?_
      refine g_On_59 (pc := 15) rfl d_On_tape_15 (by assumption) (by assumption) ?_
      refine ldi_n_4_1 (pc := 18) d_On_tape_18 ?_
      refine r_aald15 (pc := 19) d_On_tape_19 (by assumption) (by first | assumption | exact vp_in_nI (by omega) (by omega) | (unfold vp_in; decide)) (by assumption) ?_
      refine ldi_n_4_2 (pc := 20) d_On_tape_20 ?_
      refine r_iconst (pc := 21) (v := 0) d_On_tape_21 rfl ?_
      refine r_callVN (pc := 22) (As := [.int s, .int 0]) (k := 7) (N := 3) (T := T_Ta) k_On_277 im_Ta_becomes se_Ta_becomes rfl (by decide) rfl (by decide) d_On_tape_22 hT0 (c_Ta_becomes hTt) rfl (Nat.le_of_ble_eq_true rfl) (by omega) (by omega) (by omega) (fun r S' I' J' hq => ?_)
      obtain ⟨rfl, rfl, rfl, rfl⟩ := hq
      refine r_iconst (pc := 25) (v := 1) d_On_tape_25 rfl ?_
      exact r_iret d_On_tape_26 rfl (by omega) (by omega) (⟨by rw [a_On_tape, if_neg c1, if_pos c2], rfl, fun a ha => by rw [qup_row (by omega), qup_row (by omega)]⟩)
  · refine r_iconst (pc := 7) (v := (-1)) d_On_tape_7 rfl ?_
    exact r_iret d_On_tape_8 rfl (by omega) (by omega) (⟨by rw [a_On_tape, if_pos c1], rfl, fun _ _ => rfl⟩)
def a_On_item (tp : Int32) : Int32 := if qwithin tp 0 5 = 0 then -1 else -11
theorem k_On_item {tp i : Int32} {z : Int64} (hC : qFc S I) : qMet E y_On_item b_On_item 6 (some .int) 2 0 0 [.ref (qb E + 0), .int tp, .int i, .long z] S I J (fun r S' I' J' => r = some (.int (a_On_item tp)) ∧ S = S' ∧ ∀ a, 114 ≤ a → I' a = I a) := by
  obtain ⟨hO, hZ, hZ2, hZ3, hZ4, hTs, hTz, hMz⟩ := hC
  obtain ⟨oT, oR0, oR1, oR2, oR3, oR5, oR6, oR8, oR9, oR10, hI1, hN, hA, hM3, hRe, hBl, hRo, hAc, tA, tR, tT⟩ := hO
  refine qMet.of (L := [some (.ref (qb E + 0)), some (.int tp), some (.int i), some (.long z), none, none]) (by decide +kernel) (Nat.le_of_ble_eq_true rfl) rfl ?_
  refine ldi_n_6_1 (pc := 0) d_On_item_0 ?_
  refine r_callS (pc := 1) (As := [.int tp]) k_On_247 sw_On_isTape rfl (by decide) d_On_item_1 (c_On_isTape tp) rfl (Nat.le_of_ble_eq_true rfl) (by omega) (by omega) (by omega) (fun v S' I' J' hq => ?_)
  obtain ⟨rfl, rfl, rfl, rfl⟩ := hq
  refine r_if_ne (pc := 4) (tgt := 9) d_On_item_4 (by decide) (fun c1 => ?_) (fun c1 => ?_)
  · obtain ⟨t, ht, rfl⟩ := qtape_y c1
    have hRt : qR S 101 (nI t).toNatClampNeg = some (102 + 2 * t) := by rw [qcl (by omega)]; exact tR t ht
    have hTt := tT t ht
    have hT0 := hTt.1
    have hin : vp_in (nI t) 6 := vp_in_nI ht (by omega)
    refine lda_n_6_0 (pc := 9) d_On_item_9 ?_
    refine g_On_59 (pc := 10) rfl d_On_item_10 (by assumption) (by assumption) ?_
    refine ldi_n_6_1 (pc := 13) d_On_item_13 ?_
    refine r_aald15 (pc := 14) d_On_item_14 (by assumption) (by first | assumption | exact vp_in_nI (by omega) (by omega) | (unfold vp_in; decide)) (by assumption) ?_
    refine sta_6_5 (pc := 15) d_On_item_15 rfl ?_
    refine lda_6_5 (pc := 17) d_On_item_17 ?_
    refine g_On_250 (pc := 19) rfl d_On_item_19 (by assumption) ?_
    rw [hTs t ht]
    refine r_iconst (pc := 22) (v := (-1)) d_On_item_22 rfl ?_
    refine r_icmp_ne (pc := 23) (tgt := 29) d_On_item_23 (by decide) (fun c2 => ?_) (fun c2 => ?_)
    · exact absurd rfl c2
    · refine r_bipush (pc := 26) (v := (-11)) d_On_item_26 rfl ?_
      exact r_iret d_On_item_28 rfl (by omega) (by omega) (⟨by rw [a_On_item, if_neg c1], rfl, fun _ _ => rfl⟩)
  · refine r_iconst (pc := 7) (v := (-1)) d_On_item_7 rfl ?_
    exact r_iret d_On_item_8 rfl (by omega) (by omega) (⟨by rw [a_On_item, if_pos c1], rfl, fun _ _ => rfl⟩)
theorem k_On_read {tp i : Int32} (hC : qFc S I) : qMet E y_On_read b_On_read 3 (some .long) 2 0 0 [.ref (qb E + 0), .int tp, .int i] S I J (fun r S' I' J' => r = some (.long (-9223372036854775808)) ∧ S = S' ∧ ∀ a, 114 ≤ a → I' a = I a) := by
  obtain ⟨hO, hZ, hZ2, hZ3, hZ4, hTs, hTz, hMz⟩ := hC
  obtain ⟨oT, oR0, oR1, oR2, oR3, oR5, oR6, oR8, oR9, oR10, hI1, hN, hA, hM3, hRe, hBl, hRo, hAc, tA, tR, tT⟩ := hO
  refine qMet.of (L := [some (.ref (qb E + 0)), some (.int tp), some (.int i)]) (by decide +kernel) (Nat.le_of_ble_eq_true rfl) rfl ?_
  refine ldi_n_3_1 (pc := 0) d_On_read_0 ?_
  refine r_callS (pc := 1) (As := [.int tp]) k_On_247 sw_On_isTape rfl (by decide) d_On_read_1 (c_On_isTape tp) rfl (Nat.le_of_ble_eq_true rfl) (by omega) (by omega) (by omega) (fun v S' I' J' hq => ?_)
  obtain ⟨rfl, rfl, rfl, rfl⟩ := hq
  refine r_if_eq (pc := 4) (tgt := 26) d_On_read_4 (by decide) (fun c1 => ?_) (fun c1 => ?_)
  · refine r_ldc2 (pc := 26) cl_On_216 d_On_read_26 ?_
    exact r_lret d_On_read_29 rfl (by omega) (by omega) (⟨rfl, rfl, fun _ _ => rfl⟩)
  · obtain ⟨t, ht, rfl⟩ := qtape_y c1
    have hRt : qR S 101 (nI t).toNatClampNeg = some (102 + 2 * t) := by rw [qcl (by omega)]; exact tR t ht
    have hTt := tT t ht
    have hT0 := hTt.1
    have hin : vp_in (nI t) 6 := vp_in_nI ht (by omega)
    refine ldi_n_3_2 (pc := 7) d_On_read_7 ?_
    refine r_iconst (pc := 8) (v := 0) d_On_read_8 rfl ?_
    refine lda_n_3_0 (pc := 9) d_On_read_9 ?_
    refine g_On_59 (pc := 10) rfl d_On_read_10 (by assumption) (by assumption) ?_
    refine ldi_n_3_1 (pc := 13) d_On_read_13 ?_
    refine r_aald15 (pc := 14) d_On_read_14 (by assumption) (by first | assumption | exact vp_in_nI (by omega) (by omega) | (unfold vp_in; decide)) (by assumption) ?_
    refine g_On_253 (pc := 15) rfl d_On_read_15 (by assumption) ?_
    rw [hTz t ht]
    refine r_iconst (pc := 18) (v := 1) d_On_read_18 rfl ?_
    refine r_isub (pc := 19) d_On_read_19 ?_
    refine r_callS (pc := 20) (As := [.int i, .int 0, .int (0 - 1)]) k_On_64 sw_On_within rfl (by decide) d_On_read_20 (c_On_within i 0 (0 - 1)) rfl (Nat.le_of_ble_eq_true rfl) (by omega) (by omega) (by omega) (fun v S' I' J' hq => ?_)
    obtain ⟨rfl, rfl, rfl, rfl⟩ := hq
    rw [qwithin_e (by decide)]
    refine r_if_ne (pc := 23) (tgt := 30) d_On_read_23 (by decide) (fun c2 => ?_) (fun c2 => ?_)
    · exact absurd rfl c2
    · refine r_ldc2 (pc := 26) cl_On_216 d_On_read_26 ?_
      exact r_lret d_On_read_29 rfl (by omega) (by omega) (⟨rfl, rfl, fun _ _ => rfl⟩)
def a_On_shift (tp tq : Int32) : Int32 := if qwithin tp 0 5 = 0 then -1 else if qwithin tq 0 5 = 0 then -1 else -11
theorem k_On_shift {tp i tq j n : Int32} (hC : qFc S I) : qMet E y_On_shift b_On_shift 8 (some .int) 2 0 0 [.ref (qb E + 0), .int tp, .int i, .int tq, .int j, .int n] S I J (fun r S' I' J' => r = some (.int (a_On_shift tp tq)) ∧ S = S' ∧ ∀ a, 114 ≤ a → I' a = I a) := by
  obtain ⟨hO, hZ, hZ2, hZ3, hZ4, hTs, hTz, hMz⟩ := hC
  obtain ⟨oT, oR0, oR1, oR2, oR3, oR5, oR6, oR8, oR9, oR10, hI1, hN, hA, hM3, hRe, hBl, hRo, hAc, tA, tR, tT⟩ := hO
  refine qMet.of (L := [some (.ref (qb E + 0)), some (.int tp), some (.int i), some (.int tq), some (.int j), some (.int n), none, none]) (by decide +kernel) (Nat.le_of_ble_eq_true rfl) rfl ?_
  refine ldi_n_8_1 (pc := 0) d_On_shift_0 ?_
  refine r_callS (pc := 1) (As := [.int tp]) k_On_247 sw_On_isTape rfl (by decide) d_On_shift_1 (c_On_isTape tp) rfl (Nat.le_of_ble_eq_true rfl) (by omega) (by omega) (by omega) (fun v S' I' J' hq => ?_)
  obtain ⟨rfl, rfl, rfl, rfl⟩ := hq
  refine r_if_eq (pc := 4) (tgt := 14) d_On_shift_4 (by decide) (fun c1 => ?_) (fun c1 => ?_)
  · refine r_iconst (pc := 14) (v := (-1)) d_On_shift_14 rfl ?_
    exact r_iret d_On_shift_15 rfl (by omega) (by omega) (⟨by rw [a_On_shift, if_pos c1], rfl, fun _ _ => rfl⟩)
  · refine ldi_n_8_3 (pc := 7) d_On_shift_7 ?_
    refine r_callS (pc := 8) (As := [.int tq]) k_On_247 sw_On_isTape rfl (by decide) d_On_shift_8 (c_On_isTape tq) rfl (Nat.le_of_ble_eq_true rfl) (by omega) (by omega) (by omega) (fun v S' I' J' hq => ?_)
    obtain ⟨rfl, rfl, rfl, rfl⟩ := hq
    refine r_if_ne (pc := 11) (tgt := 16) d_On_shift_11 (by decide) (fun c2 => ?_) (fun c2 => ?_)
    · obtain ⟨t, ht, rfl⟩ := qtape_y c1
      obtain ⟨u, hu, rfl⟩ := qtape_y c2
      have hRt : qR S 101 (nI t).toNatClampNeg = some (102 + 2 * t) := by rw [qcl (by omega)]; exact tR t ht
      have hRu : qR S 101 (nI u).toNatClampNeg = some (102 + 2 * u) := by rw [qcl (by omega)]; exact tR u hu
      have hT0 := (tT t ht).1
      have hin : vp_in (nI t) 6 := vp_in_nI ht (by omega)
      have hinu : vp_in (nI u) 6 := vp_in_nI hu (by omega)
      refine lda_n_8_0 (pc := 16) d_On_shift_16 ?_
      refine g_On_59 (pc := 17) rfl d_On_shift_17 (by assumption) (by assumption) ?_
      refine ldi_n_8_1 (pc := 20) d_On_shift_20 ?_
      refine r_aald15 (pc := 21) d_On_shift_21 (by assumption) (by first | assumption | exact vp_in_nI (by omega) (by omega) | (unfold vp_in; decide)) (by assumption) ?_
      refine sta_8_6 (pc := 22) d_On_shift_22 rfl ?_
      refine lda_n_8_0 (pc := 24) d_On_shift_24 ?_
      refine g_On_59 (pc := 25) rfl d_On_shift_25 (by assumption) (by assumption) ?_
      refine ldi_n_8_3 (pc := 28) d_On_shift_28 ?_
      refine r_aald15 (pc := 29) d_On_shift_29 (by assumption) (by first | assumption | exact vp_in_nI (by omega) (by omega) | (unfold vp_in; decide)) (by assumption) ?_
      refine sta_8_7 (pc := 30) d_On_shift_30 rfl ?_
      refine lda_8_6 (pc := 32) d_On_shift_32 ?_
      refine g_On_250 (pc := 34) rfl d_On_shift_34 (by assumption) ?_
      rw [hTs t ht]
      refine r_iconst (pc := 37) (v := (-1)) d_On_shift_37 rfl ?_
      refine r_icmp_eq (pc := 38) (tgt := 50) d_On_shift_38 (by decide) (fun c3 => ?_) (fun c3 => ?_)
      · refine r_bipush (pc := 50) (v := (-11)) d_On_shift_50 rfl ?_
        exact r_iret d_On_shift_52 rfl (by omega) (by omega) (⟨by rw [a_On_shift, if_neg c1, if_neg c2], rfl, fun _ _ => rfl⟩)
      · exact absurd rfl c3
    · refine r_iconst (pc := 14) (v := (-1)) d_On_shift_14 rfl ?_
      exact r_iret d_On_shift_15 rfl (by omega) (by omega) (⟨by rw [a_On_shift, if_neg c1, if_pos c2], rfl, fun _ _ => rfl⟩)
def a_On_judge (tp : Int32) : Int32 := if qwithin tp 0 5 = 0 then -1 else -5
theorem k_On_judge {tp i : Int32} (hC : qFc S I) : qMet E y_On_judge b_On_judge 5 (some .int) 2 0 0 [.ref (qb E + 0), .int tp, .int i] S I J (fun r S' I' J' => r = some (.int (a_On_judge tp)) ∧ S = S' ∧ ∀ a, 114 ≤ a → I' a = I a) := by
  obtain ⟨hO, hZ, hZ2, hZ3, hZ4, hTs, hTz, hMz⟩ := hC
  obtain ⟨oT, oR0, oR1, oR2, oR3, oR5, oR6, oR8, oR9, oR10, hI1, hN, hA, hM3, hRe, hBl, hRo, hAc, tA, tR, tT⟩ := hO
  have nT := hN.1
  refine qMet.of (L := [some (.ref (qb E + 0)), some (.int tp), some (.int i), none, none]) (by decide +kernel) (Nat.le_of_ble_eq_true rfl) rfl ?_
  refine ldi_n_5_1 (pc := 0) d_On_judge_0 ?_
  refine r_callS (pc := 1) (As := [.int tp]) k_On_247 sw_On_isTape rfl (by decide) d_On_judge_1 (c_On_isTape tp) rfl (Nat.le_of_ble_eq_true rfl) (by omega) (by omega) (by omega) (fun v S' I' J' hq => ?_)
  obtain ⟨rfl, rfl, rfl, rfl⟩ := hq
  refine r_if_ne (pc := 4) (tgt := 9) d_On_judge_4 (by decide) (fun c1 => ?_) (fun c1 => ?_)
  · obtain ⟨t, ht, rfl⟩ := qtape_y c1
    have hRt : qR S 101 (nI t).toNatClampNeg = some (102 + 2 * t) := by rw [qcl (by omega)]; exact tR t ht
    have hT0 := (tT t ht).1
    have hin : vp_in (nI t) 6 := vp_in_nI ht (by omega)
    refine lda_n_5_0 (pc := 9) d_On_judge_9 ?_
    refine g_On_59 (pc := 10) rfl d_On_judge_10 (by assumption) (by assumption) ?_
    refine ldi_n_5_1 (pc := 13) d_On_judge_13 ?_
    refine r_aald15 (pc := 14) d_On_judge_14 (by assumption) (by first | assumption | exact vp_in_nI (by omega) (by omega) | (unfold vp_in; decide)) (by assumption) ?_
    refine sta_n_5_3 (pc := 15) d_On_judge_15 rfl ?_
    refine lda_n_5_3 (pc := 16) d_On_judge_16 ?_
    refine g_On_250 (pc := 17) rfl d_On_judge_17 (by assumption) ?_
    rw [hTs t ht]
    refine r_iconst (pc := 20) (v := (-1)) d_On_judge_20 rfl ?_
    refine r_icmp_eq (pc := 21) (tgt := 35) d_On_judge_21 (by decide) (fun c2 => ?_) (fun c2 => ?_)
    · refine r_iconst (pc := 35) (v := 0) d_On_judge_35 rfl ?_
      refine sti_5_4 (pc := 36) d_On_judge_36 rfl ?_
      refine ldi_5_4 (pc := 38) d_On_judge_38 ?_
      refine lda_n_5_0 (pc := 40) d_On_judge_40 ?_
      refine g_On_23 (pc := 41) rfl d_On_judge_41 (by assumption) (by assumption) ?_
      refine g_On_68 (pc := 44) rfl d_On_judge_44 (by assumption) ?_
      rw [hZ 6 1 (by decide)]
      refine r_icmp_ge (pc := 47) (tgt := 107) d_On_judge_47 (by decide) (fun c3 => ?_) (fun c3 => ?_)
      · refine r_bipush (pc := 107) (v := (-5)) d_On_judge_107 rfl ?_
        exact r_iret d_On_judge_109 rfl (by omega) (by omega) (⟨by rw [a_On_judge, if_neg c1], rfl, fun _ _ => rfl⟩)
      · exact absurd (by decide) c3
    · exact absurd rfl c2
  · refine r_iconst (pc := 7) (v := (-1)) d_On_judge_7 rfl ?_
    exact r_iret d_On_judge_8 rfl (by omega) (by omega) (⟨by rw [a_On_judge, if_pos c1], rfl, fun _ _ => rfl⟩)
def a_On_pass (n : Int32) : Int32 := if qwithin n 0 60 = 0 then -2 else n
theorem k_On_pass {n : Int32} (hC : qFc S I) : qMet E y_On_pass b_On_pass 2 (some .int) 5 0 0 [.ref (qb E + 0), .int n] S I J (fun r S' I' J' => r = some (.int (a_On_pass n)) ∧ S = S' ∧ ∀ a, 114 ≤ a → I' a = I a) := by
  have hC0 := hC
  obtain ⟨hO, hZ, hZ2, hZ3, hZ4, hTs, hTz, hMz⟩ := hC
  obtain ⟨oT, oR0, oR1, oR2, oR3, oR5, oR6, oR8, oR9, oR10, hI1, hN, hA, hM3, hRe, hBl, hRo, hAc, tA, tR, tT⟩ := hO
  have nT := hN.1
  refine qMet.of (L := [some (.ref (qb E + 0)), some (.int n)]) (by decide +kernel) (Nat.le_of_ble_eq_true rfl) rfl ?_
  refine ldi_n_2_1 (pc := 0) d_On_pass_0 ?_
  refine r_iconst (pc := 1) (v := 0) d_On_pass_1 rfl ?_
  refine r_bipush (pc := 2) (v := 60) d_On_pass_2 rfl ?_
  refine r_callS (pc := 4) (As := [.int n, .int 0, .int 60]) k_On_64 sw_On_within rfl (by decide) d_On_pass_4 (c_On_within n 0 60) rfl (Nat.le_of_ble_eq_true rfl) (by omega) (by omega) (by omega) (fun v S' I' J' hq => ?_)
  obtain ⟨rfl, rfl, rfl, rfl⟩ := hq
  refine r_if_ne (pc := 7) (tgt := 13) d_On_pass_7 (by decide) (fun c1 => ?_) (fun c1 => ?_)
  · obtain ⟨m, hm, rfl⟩ := q60_y c1
    refine lda_n_2_0 (pc := 13) d_On_pass_13 ?_
    refine g_On_23 (pc := 14) rfl d_On_pass_14 (by assumption) (by assumption) ?_
    refine g_On_148 (pc := 17) rfl d_On_pass_17 (by assumption) ?_
    rw [hZ 6 4 (by decide)]
    refine ldi_n_2_1 (pc := 20) d_On_pass_20 ?_
    refine r_iadd (pc := 21) d_On_pass_21 ?_
    refine r_sipush (pc := 22) (v := 9999) d_On_pass_22 rfl ?_
    rw [q0a]
    refine r_icmp_le (pc := 25) (tgt := 31) d_On_pass_25 (by decide) (fun c2 => ?_) (fun c2 => ?_)
    · refine lda_n_2_0 (pc := 31) d_On_pass_31 ?_
      refine g_On_23 (pc := 32) rfl d_On_pass_32 (by assumption) (by assumption) ?_
      refine ldi_n_2_1 (pc := 35) d_On_pass_35 ?_
      refine r_ldc (pc := 36) ct_On_117 d_On_pass_36 ?_
      refine r_callVN (pc := 38) (As := [.int (nI m), .int 99999]) (k := 3) (N := 9) (T := T_Mg) k_On_175 im_Mg_go se_Mg_go rfl (by decide) rfl (by decide) d_On_pass_38 nT (c_Mg_go (n := m) (D := 0) hN hC0.ok.1 hC0.ok.2 (by unfold qApart; omega) (by omega)) rfl (Nat.le_of_ble_eq_true rfl) (by omega) (by omega) (by omega) (fun v S' I3 J' hq => ?_)
      obtain ⟨rfl, rfl, hI3, rfl⟩ := hq
      refine lda_n_2_0 (pc := 41) d_On_pass_41 ?_
      refine g_On_23 (pc := 42) rfl d_On_pass_42 (by assumption) (by assumption) ?_
      refine g_On_148 (pc := 45) rfl d_On_pass_45 (by assumption) ?_
      have e4 : I3 6 4 = nI m := by rw [hI3 6 (by omega), qgoN_day (d := 0) (by rw [hZ 6 4 (by decide), q0]), Nat.zero_add]
      rw [e4]
      exact r_iret d_On_pass_48 rfl (by omega) (by omega) (⟨by rw [a_On_pass, if_neg c1], rfl, fun a ha => by rw [hI3 a (by omega), qgoN_row hC0.ok.1 (by omega)]⟩)
    · exact absurd (show nI m ≤ nI 9999 from nI_le (by omega) (by omega)) c2
  · refine r_bipush (pc := 10) (v := (-2)) d_On_pass_10 rfl ?_
    exact r_iret d_On_pass_12 rfl (by omega) (by omega) (⟨by rw [a_On_pass, if_pos c1], rfl, fun _ _ => rfl⟩)
end ON7
