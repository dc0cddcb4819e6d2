/-! the object's calls: items, shifts, days -/
section H3
variable {E : qE} {S : qSh} {I : qI} {J : qJ} {w0 w1 w2 bl : Nat}
theorem c_On_item {tp i : Int32} {v : Int64} (hO : isOn S w0 w1 w2 bl) (hts : ∀ t, t < 6 → ∃ z, z ≤ 60 ∧ I (102 + 2 * t) 1 = nI z) : qMet E y_On_item b_On_item 6 (some .int) 2 0 0 [.ref (qb E + 0), .int tp, .int i, .long v] S I J (fun r S' I' J' => r = some (.int (ca_item I tp i)) ∧ S = S' ∧ I = I' ∧ J' = cj_item I J tp i v) := by
  obtain ⟨oT, oR0, oR1, oR2, oR3, oR5, oR6, oR8, oR9, oR10, hI1, hN, hA, hM3, hRe, hBl, hRo, hAc, tA, tR, tT⟩ := hO
  refine qMet.of (L := [some (.ref (qb E + 0)), some (.int tp), some (.int i), some (.long v), none, none]) (by decide +kernel) (Nat.le_of_ble_eq_true rfl) rfl ?_
  unfold ca_item cj_item
  refine ldi_n_6_1 (pc := 0) d_On_item_0 ?_
  refine r_callS (pc := 1) (As := [.int tp]) k_On_247 sw_On_isTape rfl (by decide) d_On_item_1 (c_On_isTape tp) rfl (Nat.le_of_ble_eq_true rfl) (by omega) (by omega) (by omega) (fun v S' I' J' hq => ?_)
  obtain ⟨rfl, rfl, rfl, rfl⟩ := hq
  refine r_if_ne (pc := 4) (tgt := 9) d_On_item_4 (by decide) (fun c1 => ?_) (fun c1 => ?_)
  · rw [if_neg c1, if_neg c1]
    obtain ⟨t, ht, rfl⟩ := qtape_y c1
    have hRt : qR S 101 (nI t).toNatClampNeg = some (102 + 2 * t) := by rw [qcl (by omega)]; exact tR t ht
    obtain ⟨hT0, hTA, hTR⟩ := tT t ht
    have hin : vp_in (nI t) 6 := vp_in_nI ht (by omega)
    have ec : ctp (nI t) = 102 + 2 * t := by unfold ctp; rw [qcl (by omega)]
    obtain ⟨z, z1, z2⟩ := hts t ht
    rw [ec]
    refine lda_n_6_0 (pc := 9) d_On_item_9 ?_
    refine g_On_59 (pc := 10) rfl d_On_item_10 (by assumption) (by assumption) ?_
    refine ldi_n_6_1 (pc := 13) d_On_item_13 ?_
    refine r_aald15 (pc := 14) d_On_item_14 (by assumption) (by first | assumption | exact vp_in_nI (by omega) (by omega) | (unfold vp_in; decide)) (by assumption) ?_
    refine sta_6_5 (pc := 15) d_On_item_15 rfl ?_
    refine lda_6_5 (pc := 17) d_On_item_17 ?_
    refine g_On_250 (pc := 19) rfl d_On_item_19 (by assumption) ?_
    refine r_iconst (pc := 22) (v := (-1)) d_On_item_22 rfl ?_
    refine r_icmp_ne (pc := 23) (tgt := 29) d_On_item_23 (by decide) (fun c2 => ?_) (fun c2 => ?_)
    · rw [if_neg c2, if_neg c2]
      refine ldi_n_6_2 (pc := 29) d_On_item_29 ?_
      refine r_iconst (pc := 30) (v := 0) d_On_item_30 rfl ?_
      refine lda_6_5 (pc := 31) d_On_item_31 ?_
      refine g_On_253 (pc := 33) rfl d_On_item_33 (by assumption) ?_
      refine r_iconst (pc := 36) (v := 1) d_On_item_36 rfl ?_
      refine r_isub (pc := 37) d_On_item_37 ?_
      refine r_callS (pc := 38) (As := [.int i, .int 0, .int (I (102 + 2 * t) 1 - 1)]) k_On_64 sw_On_within rfl (by decide) d_On_item_38 (c_On_within _ _ _) rfl (Nat.le_of_ble_eq_true rfl) (by omega) (by omega) (by omega) (fun v S' I' J' hq => ?_)
      obtain ⟨rfl, rfl, rfl, rfl⟩ := hq
      refine r_if_ne (pc := 41) (tgt := 47) d_On_item_41 (by decide) (fun c3 => ?_) (fun c3 => ?_)
      · rw [if_neg c3, if_neg c3]
        have hir : vp_in i 60 := by
          rw [z2] at c3
          obtain ⟨k, k1, k2⟩ := qisM_y (by omega) c3
          rw [k2]; exact vp_in_nI (by omega) (by omega)
        refine lda_6_5 (pc := 47) d_On_item_47 ?_
        refine g_On_254 (pc := 49) rfl d_On_item_49 (by assumption) (by assumption) ?_
        refine ldi_n_6_2 (pc := 52) d_On_item_52 ?_
        refine lda_6_5 (pc := 53) d_On_item_53 ?_
        refine ldl_n_6_3 (pc := 55) d_On_item_55 ?_
        refine r_callVN (pc := 56) (As := [.long v]) (k := 7) (N := 3) (T := T_Ta) k_On_279 im_Ta_asItem se_Ta_asItem rfl (by decide) rfl (by decide) d_On_item_56 hT0 (c_Ta_asItem hT0) rfl (Nat.le_of_ble_eq_true rfl) (by omega) (by omega) (by omega) (fun v S' I' J' hq => ?_)
        obtain ⟨rfl, rfl, rfl, rfl⟩ := hq
        refine r_last (pc := 59) d_On_item_59 (by assumption) (by first | assumption | exact vp_in_nI (by omega) (by omega) | (unfold vp_in; decide)) ?_
        refine r_iconst (pc := 60) (v := 1) d_On_item_60 rfl ?_
        exact r_iret d_On_item_61 rfl (by omega) (by omega) (⟨rfl, rfl, rfl, rfl⟩)
      · rw [if_pos c3, if_pos c3]
        refine r_bipush (pc := 44) (v := (-13)) d_On_item_44 rfl ?_
        exact r_iret d_On_item_46 rfl (by omega) (by omega) (⟨rfl, rfl, rfl, rfl⟩)
    · rw [if_pos c2, if_pos c2]
      refine r_bipush (pc := 26) (v := (-11)) d_On_item_26 rfl ?_
      exact r_iret d_On_item_28 rfl (by omega) (by omega) (⟨rfl, rfl, rfl, rfl⟩)
  · rw [if_pos c1, if_pos c1]
    refine r_iconst (pc := 7) (v := (-1)) d_On_item_7 rfl ?_
    exact r_iret d_On_item_8 rfl (by omega) (by omega) (⟨rfl, rfl, rfl, rfl⟩)
theorem c_On_read {tp i : Int32} (hO : isOn S w0 w1 w2 bl) (hts : ∀ t, t < 6 → ∃ z, z ≤ 60 ∧ I (102 + 2 * t) 1 = nI z) : qMet E y_On_read b_On_read 3 (some .long) 2 0 0 [.ref (qb E + 0), .int tp, .int i] S I J (qPl S I J (ca_read I J tp i)) := by
  obtain ⟨oT, oR0, oR1, oR2, oR3, oR5, oR6, oR8, oR9, oR10, hI1, hN, hA, hM3, hRe, hBl, hRo, hAc, tA, tR, tT⟩ := hO
  refine qMet.of (L := [some (.ref (qb E + 0)), some (.int tp), some (.int i)]) (by decide +kernel) (Nat.le_of_ble_eq_true rfl) rfl ?_
  unfold ca_read
  refine ldi_n_3_1 (pc := 0) d_On_read_0 ?_
  refine r_callS (pc := 1) (As := [.int tp]) k_On_247 sw_On_isTape rfl (by decide) d_On_read_1 (c_On_isTape tp) rfl (Nat.le_of_ble_eq_true rfl) (by omega) (by omega) (by omega) (fun v S' I' J' hq => ?_)
  obtain ⟨rfl, rfl, rfl, rfl⟩ := hq
  refine r_if_eq (pc := 4) (tgt := 26) d_On_read_4 (by decide) (fun c1 => ?_) (fun c1 => ?_)
  · rw [if_pos c1]
    refine r_ldc2 (pc := 26) cl_On_216 d_On_read_26 ?_
    exact r_lret d_On_read_29 rfl (by omega) (by omega) (⟨rfl, rfl, rfl, rfl⟩)
  · rw [if_neg c1]
    obtain ⟨t, ht, rfl⟩ := qtape_y c1
    have hRt : qR S 101 (nI t).toNatClampNeg = some (102 + 2 * t) := by rw [qcl (by omega)]; exact tR t ht
    obtain ⟨hT0, hTA, hTR⟩ := tT t ht
    have hin : vp_in (nI t) 6 := vp_in_nI ht (by omega)
    have ec : ctp (nI t) = 102 + 2 * t := by unfold ctp; rw [qcl (by omega)]
    obtain ⟨z, z1, z2⟩ := hts t ht
    rw [ec]
    refine ldi_n_3_2 (pc := 7) d_On_read_7 ?_
    refine r_iconst (pc := 8) (v := 0) d_On_read_8 rfl ?_
    refine lda_n_3_0 (pc := 9) d_On_read_9 ?_
    refine g_On_59 (pc := 10) rfl d_On_read_10 (by assumption) (by assumption) ?_
    refine ldi_n_3_1 (pc := 13) d_On_read_13 ?_
    refine r_aald15 (pc := 14) d_On_read_14 (by assumption) (by first | assumption | exact vp_in_nI (by omega) (by omega) | (unfold vp_in; decide)) (by assumption) ?_
    refine g_On_253 (pc := 15) rfl d_On_read_15 (by assumption) ?_
    refine r_iconst (pc := 18) (v := 1) d_On_read_18 rfl ?_
    refine r_isub (pc := 19) d_On_read_19 ?_
    refine r_callS (pc := 20) (As := [.int i, .int 0, .int (I (102 + 2 * t) 1 - 1)]) k_On_64 sw_On_within rfl (by decide) d_On_read_20 (c_On_within _ _ _) rfl (Nat.le_of_ble_eq_true rfl) (by omega) (by omega) (by omega) (fun v S' I' J' hq => ?_)
    obtain ⟨rfl, rfl, rfl, rfl⟩ := hq
    refine r_if_ne (pc := 23) (tgt := 30) d_On_read_23 (by decide) (fun c3 => ?_) (fun c3 => ?_)
    · rw [if_neg c3]
      have hir : vp_in i 60 := by
        rw [z2] at c3
        obtain ⟨k, k1, k2⟩ := qisM_y (by omega) c3
        rw [k2]; exact vp_in_nI (by omega) (by omega)
      refine lda_n_3_0 (pc := 30) d_On_read_30 ?_
      refine g_On_59 (pc := 31) rfl d_On_read_31 (by assumption) (by assumption) ?_
      refine ldi_n_3_1 (pc := 34) d_On_read_34 ?_
      refine r_aald15 (pc := 35) d_On_read_35 (by assumption) (by first | assumption | exact vp_in_nI (by omega) (by omega) | (unfold vp_in; decide)) (by assumption) ?_
      refine g_On_254 (pc := 36) rfl d_On_read_36 (by assumption) (by assumption) ?_
      refine ldi_n_3_2 (pc := 39) d_On_read_39 ?_
      refine r_lald (pc := 40) d_On_read_40 (by assumption) (by first | assumption | exact vp_in_nI (by omega) (by omega) | (unfold vp_in; decide)) ?_
      exact r_lret d_On_read_41 rfl (by omega) (by omega) (⟨rfl, rfl, rfl, rfl⟩)
    · rw [if_pos c3]
      refine r_ldc2 (pc := 26) cl_On_216 d_On_read_26 ?_
      exact r_lret d_On_read_29 rfl (by omega) (by omega) (⟨rfl, rfl, rfl, rfl⟩)
theorem c_On_shift {tp i tq j n : Int32} (hO : isOn S w0 w1 w2 bl) (hts : ∀ t, t < 6 → ∃ z, z ≤ 60 ∧ I (102 + 2 * t) 1 = nI z) : qMet E y_On_shift b_On_shift 8 (some .int) 2 0 0 [.ref (qb E + 0), .int tp, .int i, .int tq, .int j, .int n] S I J (fun r S' I' J' => r = some (.int (ca_shift I tp i tq j n)) ∧ S = S' ∧ I = I' ∧ J' = cj_shift I J tp i tq j n) := by
  obtain ⟨oT, oR0, oR1, oR2, oR3, oR5, oR6, oR8, oR9, oR10, hI1, hN, hA, hM3, hRe, hBl, hRo, hAc, tA, tR, tT⟩ := hO
  refine qMet.of (L := [some (.ref (qb E + 0)), some (.int tp), some (.int i), some (.int tq), some (.int j), some (.int n), none, none]) (by decide +kernel) (Nat.le_of_ble_eq_true rfl) rfl ?_
  unfold ca_shift cj_shift
  refine ldi_n_8_1 (pc := 0) d_On_shift_0 ?_
  refine r_callS (pc := 1) (As := [.int tp]) k_On_247 sw_On_isTape rfl (by decide) d_On_shift_1 (c_On_isTape tp) rfl (Nat.le_of_ble_eq_true rfl) (by omega) (by omega) (by omega) (fun v S' I' J' hq => ?_)
  obtain ⟨rfl, rfl, rfl, rfl⟩ := hq
  refine r_if_eq (pc := 4) (tgt := 14) d_On_shift_4 (by decide) (fun c1 => ?_) (fun c1 => ?_)
  · rw [if_pos c1, if_pos c1]
    refine r_iconst (pc := 14) (v := (-1)) d_On_shift_14 rfl ?_
    exact r_iret d_On_shift_15 rfl (by omega) (by omega) (⟨rfl, rfl, rfl, rfl⟩)
  · rw [if_neg c1, if_neg c1]
    refine ldi_n_8_3 (pc := 7) d_On_shift_7 ?_
    refine r_callS (pc := 8) (As := [.int tq]) k_On_247 sw_On_isTape rfl (by decide) d_On_shift_8 (c_On_isTape tq) rfl (Nat.le_of_ble_eq_true rfl) (by omega) (by omega) (by omega) (fun v S' I' J' hq => ?_)
    obtain ⟨rfl, rfl, rfl, rfl⟩ := hq
    refine r_if_ne (pc := 11) (tgt := 16) d_On_shift_11 (by decide) (fun c2 => ?_) (fun c2 => ?_)
    · rw [if_neg c2, if_neg c2]
      obtain ⟨t, ht, rfl⟩ := qtape_y c1
      obtain ⟨u, hu, rfl⟩ := qtape_y c2
      have hRt : qR S 101 (nI t).toNatClampNeg = some (102 + 2 * t) := by rw [qcl (by omega)]; exact tR t ht
      have hRu : qR S 101 (nI u).toNatClampNeg = some (102 + 2 * u) := by rw [qcl (by omega)]; exact tR u hu
      obtain ⟨hT0, hTA, hTR⟩ := tT t ht
      obtain ⟨hU0, hUA, hUR⟩ := tT u hu
      have hin : vp_in (nI t) 6 := vp_in_nI ht (by omega)
      have hinu : vp_in (nI u) 6 := vp_in_nI hu (by omega)
      have ec : ctp (nI t) = 102 + 2 * t := by unfold ctp; rw [qcl (by omega)]
      have eu : ctp (nI u) = 102 + 2 * u := by unfold ctp; rw [qcl (by omega)]
      obtain ⟨z, z1, z2⟩ := hts t ht
      obtain ⟨z', z1', z2'⟩ := hts u hu
      rw [ec, eu]
      refine lda_n_8_0 (pc := 16) d_On_shift_16 ?_
      refine g_On_59 (pc := 17) rfl d_On_shift_17 (by assumption) (by assumption) ?_
      refine ldi_n_8_1 (pc := 20) d_On_shift_20 ?_
      refine r_aald15 (pc := 21) d_On_shift_21 (by assumption) (by first | assumption | exact vp_in_nI (by omega) (by omega) | (unfold vp_in; decide)) (by assumption) ?_
      refine sta_8_6 (pc := 22) d_On_shift_22 rfl ?_
      refine lda_n_8_0 (pc := 24) d_On_shift_24 ?_
      refine g_On_59 (pc := 25) rfl d_On_shift_25 (by assumption) (by assumption) ?_
      refine ldi_n_8_3 (pc := 28) d_On_shift_28 ?_
      refine r_aald15 (pc := 29) d_On_shift_29 (by assumption) (by first | assumption | exact vp_in_nI (by omega) (by omega) | (unfold vp_in; decide)) (by assumption) ?_
      refine sta_8_7 (pc := 30) d_On_shift_30 rfl ?_
      refine lda_8_6 (pc := 32) d_On_shift_32 ?_
      refine g_On_250 (pc := 34) rfl d_On_shift_34 (by assumption) ?_
      refine r_iconst (pc := 37) (v := (-1)) d_On_shift_37 rfl ?_
      refine r_icmp_eq (pc := 38) (tgt := 50) d_On_shift_38 (by decide) (fun c3 => ?_) (fun c3 => ?_)
      · have c3' : I (102 + 2 * t) 0 = -1 := c3
        rw [if_pos c3', if_pos c3']
        refine r_bipush (pc := 50) (v := (-11)) d_On_shift_50 rfl ?_
        exact r_iret d_On_shift_52 rfl (by omega) (by omega) (⟨rfl, rfl, rfl, rfl⟩)
      · have c3' : ¬ I (102 + 2 * t) 0 = -1 := c3
        rw [if_neg c3', if_neg c3']
        refine lda_8_7 (pc := 41) d_On_shift_41 ?_
        refine g_On_250 (pc := 43) rfl d_On_shift_43 (by assumption) ?_
        refine r_iconst (pc := 46) (v := (-1)) d_On_shift_46 rfl ?_
        refine r_icmp_ne (pc := 47) (tgt := 53) d_On_shift_47 (by decide) (fun c4 => ?_) (fun c4 => ?_)
        · have c4' : ¬ I (102 + 2 * u) 0 = -1 := c4
          rw [if_neg c4', if_neg c4']
          refine lda_8_6 (pc := 53) d_On_shift_53 ?_
          refine g_On_250 (pc := 55) rfl d_On_shift_55 (by assumption) ?_
          refine lda_8_7 (pc := 58) d_On_shift_58 ?_
          refine g_On_250 (pc := 60) rfl d_On_shift_60 (by assumption) ?_
          refine r_icmp_eq (pc := 63) (tgt := 69) d_On_shift_63 (by decide) (fun c5 => ?_) (fun c5 => ?_)
          · have c5' : I (102 + 2 * t) 0 = I (102 + 2 * u) 0 := c5
            rw [if_pos c5', if_pos c5']
            refine lda_8_6 (pc := 69) d_On_shift_69 ?_
            refine ldi_n_8_2 (pc := 71) d_On_shift_71 ?_
            refine ldi_8_5 (pc := 72) d_On_shift_72 ?_
            refine r_callVN (pc := 74) (As := [.int i, .int n]) (k := 7) (N := 3) (T := T_Ta) k_On_283 im_Ta_holds se_Ta_holds rfl (by decide) rfl (by decide) d_On_shift_74 hT0 (c_Ta_holds hT0) rfl (Nat.le_of_ble_eq_true rfl) (by omega) (by omega) (by omega) (fun v S' I' J' hq => ?_)
            obtain ⟨rfl, rfl, rfl, rfl⟩ := hq
            refine r_if_eq (pc := 77) (tgt := 92) d_On_shift_77 (by decide) (fun c6 => ?_) (fun c6 => ?_)
            · rw [if_pos c6, if_pos c6]
              refine r_bipush (pc := 92) (v := (-13)) d_On_shift_92 rfl ?_
              exact r_iret d_On_shift_94 rfl (by omega) (by omega) (⟨rfl, rfl, rfl, rfl⟩)
            · rw [if_neg c6, if_neg c6]
              refine lda_8_7 (pc := 80) d_On_shift_80 ?_
              refine ldi_8_4 (pc := 82) d_On_shift_82 ?_
              refine ldi_8_5 (pc := 84) d_On_shift_84 ?_
              refine r_callVN (pc := 86) (As := [.int j, .int n]) (k := 7) (N := 3) (T := T_Ta) k_On_283 im_Ta_holds se_Ta_holds rfl (by decide) rfl (by decide) d_On_shift_86 hU0 (c_Ta_holds hU0) rfl (Nat.le_of_ble_eq_true rfl) (by omega) (by omega) (by omega) (fun v S' I' J' hq => ?_)
              obtain ⟨rfl, rfl, rfl, rfl⟩ := hq
              refine r_if_ne (pc := 89) (tgt := 95) d_On_shift_89 (by decide) (fun c7 => ?_) (fun c7 => ?_)
              · rw [if_neg c7, if_neg c7]
                rw [z2] at c6
                rw [z2'] at c7
                obtain ⟨a, b, rfl, rfl, hab⟩ := hold_y (by omega) c6
                obtain ⟨a', b', rfl, eb, hab'⟩ := hold_y (by omega) c7
                have e3 : b = b' := (nI_eq (by omega) (by omega)).mp eb
                refine lda_8_6 (pc := 95) d_On_shift_95 ?_
                refine g_On_254 (pc := 97) rfl d_On_shift_97 (by assumption) (by assumption) ?_
                refine ldi_n_8_2 (pc := 100) d_On_shift_100 ?_
                refine lda_8_7 (pc := 101) d_On_shift_101 ?_
                refine g_On_254 (pc := 103) rfl d_On_shift_103 (by assumption) (by assumption) ?_
                refine ldi_8_4 (pc := 106) d_On_shift_106 ?_
                refine ldi_8_5 (pc := 108) d_On_shift_108 ?_
                refine r_copyl (pc := 110) (n0 := 60) (n1 := 60) ml_On_287 nat_copy sw_copy ii_System d_On_shift_110 hTA hUA (nI_pos (by omega)) (nI_pos (by omega)) (nI_pos (by omega)) (by rw [qcl (by omega), qcl (by omega)]; omega) (by rw [qcl (by omega), qcl (by omega)]; omega) (by omega) (Nat.le_of_ble_eq_true rfl) ?_
                refine ldi_8_5 (pc := 113) d_On_shift_113 ?_
                exact r_iret d_On_shift_115 rfl (by omega) (by omega) (⟨rfl, rfl, rfl, rfl⟩)
              · rw [if_pos c7, if_pos c7]
                refine r_bipush (pc := 92) (v := (-13)) d_On_shift_92 rfl ?_
                exact r_iret d_On_shift_94 rfl (by omega) (by omega) (⟨rfl, rfl, rfl, rfl⟩)
          · have c5' : ¬ I (102 + 2 * t) 0 = I (102 + 2 * u) 0 := c5
            rw [if_neg c5', if_neg c5']
            refine r_bipush (pc := 66) (v := (-12)) d_On_shift_66 rfl ?_
            exact r_iret d_On_shift_68 rfl (by omega) (by omega) (⟨rfl, rfl, rfl, rfl⟩)
        · have c4' : I (102 + 2 * u) 0 = -1 := c4
          rw [if_pos c4', if_pos c4']
          refine r_bipush (pc := 50) (v := (-11)) d_On_shift_50 rfl ?_
          exact r_iret d_On_shift_52 rfl (by omega) (by omega) (⟨rfl, rfl, rfl, rfl⟩)
    · rw [if_pos c2, if_pos c2]
      refine r_iconst (pc := 14) (v := (-1)) d_On_shift_14 rfl ?_
      exact r_iret d_On_shift_15 rfl (by omega) (by omega) (⟨rfl, rfl, rfl, rfl⟩)
def ca_pass (I : qI) (d : Nat) (n : Int32) : Int32 := if qwithin n 0 60 = 0 then -2 else if nI d + n ≤ 9999 then nI d + n else -3
def ci_pass (I : qI) (w0 d : Nat) (n : Int32) : qI := if qwithin n 0 60 = 0 then I else if nI d + n ≤ 9999 then qgoN I 6 w0 99999 n.toNatClampNeg else I
theorem c_On_pass {n : Int32} {d : Nat} (hO : isOn S w0 w1 w2 bl) (hok : qMgOK I 6 9999) (hI : qIsOK I w0) (hap : qApart 6 w0) (hd : I 6 4 = nI d) (hd9 : d ≤ 9999) : qMet E y_On_pass b_On_pass 2 (some .int) 5 0 0 [.ref (qb E + 0), .int n] S I J (fun r S' I' J' => r = some (.int (ca_pass I d n)) ∧ S = S' ∧ qEq (w0 + 4) (ci_pass I w0 d n) I' ∧ J = J') := by
  obtain ⟨oT, oR0, oR1, oR2, oR3, oR5, oR6, oR8, oR9, oR10, hI1, hN, hA, hM3, hRe, hBl, hRo, hAc, tA, tR, tT⟩ := hO
  have hNN := hN
  have hN0 := hN
  obtain ⟨mT, mA1, mA2, mR0, mR2, mR5, mR6, mR7, mR8, nS, nP, nB, nI0, mRp, mMp⟩ := hN
  refine qMet.of (L := [some (.ref (qb E + 0)), some (.int n)]) (by decide +kernel) (Nat.le_of_ble_eq_true rfl) rfl ?_
  unfold ca_pass ci_pass
  refine ldi_n_2_1 (pc := 0) d_On_pass_0 ?_
  refine r_iconst (pc := 1) (v := 0) d_On_pass_1 rfl ?_
  refine r_bipush (pc := 2) (v := 60) d_On_pass_2 rfl ?_
  refine r_callS (pc := 4) (As := [.int n, .int 0, .int 60]) k_On_64 sw_On_within rfl (by decide) d_On_pass_4 (c_On_within _ _ _) rfl (Nat.le_of_ble_eq_true rfl) (by omega) (by omega) (by omega) (fun v S' I' J' hq => ?_)
  obtain ⟨rfl, rfl, rfl, rfl⟩ := hq
  refine r_if_ne (pc := 7) (tgt := 13) d_On_pass_7 (by decide) (fun c1 => ?_) (fun c1 => ?_)
  · rw [if_neg c1, if_neg c1]
    obtain ⟨h1, h2⟩ := qwithin_y c1
    obtain ⟨k, k1, rfl⟩ := nI_of2 (M := 60) (n := 60) rfl (Int32.not_lt.mpr h1) h2
    rw [nI_add, qcl (n := k) (by omega)]
    refine lda_n_2_0 (pc := 13) d_On_pass_13 ?_
    refine g_On_23 (pc := 14) rfl d_On_pass_14 (by assumption) (by assumption) ?_
    refine g_On_148 (pc := 17) rfl d_On_pass_17 (by assumption) ?_
    refine ldi_n_2_1 (pc := 20) d_On_pass_20 ?_
    refine r_iadd (pc := 21) d_On_pass_21 ?_
    refine r_sipush (pc := 22) (v := 9999) d_On_pass_22 rfl ?_
    rw [hd, nI_add]
    refine r_icmp_le (pc := 25) (tgt := 31) d_On_pass_25 (by decide) (fun c2 => ?_) (fun c2 => ?_)
    · have c2' : nI (d + k) ≤ 9999 := c2
      rw [if_pos c2', if_pos c2']
      refine lda_n_2_0 (pc := 31) d_On_pass_31 ?_
      refine g_On_23 (pc := 32) rfl d_On_pass_32 (by assumption) (by assumption) ?_
      refine ldi_n_2_1 (pc := 35) d_On_pass_35 ?_
      refine r_ldc (pc := 36) ct_On_117 d_On_pass_36 ?_
      refine r_callVN (pc := 38) (As := [.int (nI k), .int 99999]) (k := 3) (N := 9) (T := T_Mg) k_On_175 im_Mg_go se_Mg_go rfl (by decide) rfl (by decide) d_On_pass_38 (by assumption) (c_Mg_go hNN hok hI hap (by omega)) rfl (Nat.le_of_ble_eq_true rfl) (by omega) (by omega) (by omega) (fun v S' I' J' hq => ?_)
      obtain ⟨rfl, rfl, he, rfl⟩ := hq
      have e4 : I' 6 4 = nI (d + k) := by rw [he 6 (by unfold qApart at hap; omega)]; exact qgoN_day hd k
      refine lda_n_2_0 (pc := 41) d_On_pass_41 ?_
      refine g_On_23 (pc := 42) rfl d_On_pass_42 (by assumption) (by assumption) ?_
      refine g_On_148 (pc := 45) rfl d_On_pass_45 (by assumption) ?_
      rw [e4]
      exact r_iret d_On_pass_48 rfl (by omega) (by omega) (⟨rfl, rfl, he, rfl⟩)
    · have c2' : ¬ nI (d + k) ≤ 9999 := c2
      rw [if_neg c2', if_neg c2']
      refine r_bipush (pc := 28) (v := (-3)) d_On_pass_28 rfl ?_
      exact r_iret d_On_pass_30 rfl (by omega) (by omega) (⟨rfl, rfl, qEq.rf, rfl⟩)
  · rw [if_pos c1, if_pos c1]
    refine r_bipush (pc := 10) (v := (-2)) d_On_pass_10 rfl ?_
    exact r_iret d_On_pass_12 rfl (by omega) (by omega) (⟨rfl, rfl, qEq.rf, rfl⟩)
theorem c_On_image {c : Nat} (hO : isOn S w0 w1 w2 bl) (hok : qMgOK I 6 9999) (hc : I 6 1 = nI c) (hc6 : c ≤ 6) : qMet E y_On_image b_On_image 1 (some .int) 3 0 0 [.ref (qb E + 0)] S I J (fun r S' I' J' => r = some (.int (nI c)) ∧ S' = qsetR S 60 5 (some w0) ∧ I' = qup (qmbec I 60 6) 0 4 1 ∧ J = J') := by
  obtain ⟨oT, oR0, oR1, oR2, oR3, oR5, oR6, oR8, oR9, oR10, hI1, hN, hA, hM3, hRe, hBl, hRo, hAc, tA, tR, tT⟩ := hO
  have hNN := hN
  have hM0 := hM3
  have nT3 := hM3.1
  have hN0 := hN
  obtain ⟨mT, mA1, mA2, mR0, mR2, mR5, mR6, mR7, mR8, nS, nP, nB, nI0, mRp, mMp⟩ := hN
  refine qMet.of (L := [some (.ref (qb E + 0))]) (by decide +kernel) (Nat.le_of_ble_eq_true rfl) rfl ?_
  refine lda_n_1_0 (pc := 0) d_On_image_0 ?_
  refine g_On_30 (pc := 1) rfl d_On_image_1 (by assumption) (by assumption) ?_
  refine lda_n_1_0 (pc := 4) d_On_image_4 ?_
  refine g_On_23 (pc := 5) rfl d_On_image_5 (by assumption) (by assumption) ?_
  refine r_callVN (pc := 8) (As := [.ref (qb E + 6)]) (k := 3) (N := 9) (T := T_Mg) k_On_179 im_Mg_becomes se_Mg_becomes rfl (by decide) rfl (by decide) d_On_image_8 (by assumption) (c_Mg_becomes hM0 hNN hok (by unfold qApM; omega)) rfl (Nat.le_of_ble_eq_true rfl) (by omega) (by omega) (by omega) (fun v S' I' J' hq => ?_)
  obtain ⟨rfl, rfl, rfl, rfl⟩ := hq
  have oT' : qT (qsetR S 60 5 (some w0)) 0 8 := oT
  have oR1' : qR (qsetR S 60 5 (some w0)) 0 1 = some 6 := by show qup (qR S) 60 5 (some w0) 0 1 = some 6; rw [qup_o (by decide)]; exact oR1
  have mT' : qT (qsetR S 60 5 (some w0)) 6 3 := mT
  refine lda_n_1_0 (pc := 11) d_On_image_11 ?_
  refine r_iconst (pc := 12) (v := 1) d_On_image_12 rfl ?_
  refine p_On_258 (pc := 13) rfl d_On_image_13 (by assumption) (by first | exact Or.inl rfl | exact Or.inr rfl | assumption) ?_
  refine lda_n_1_0 (pc := 16) d_On_image_16 ?_
  refine g_On_23 (pc := 17) rfl d_On_image_17 (by assumption) (by assumption) ?_
  refine g_On_68 (pc := 20) rfl d_On_image_20 (by assumption) ?_
  rw [qup_o (by decide), qmbec_row hok (by omega), hc]
  exact r_iret d_On_image_23 rfl (by omega) (by omega) (⟨rfl, rfl, rfl, rfl⟩)
theorem c_On_undo0 (hO : isOn S w0 w1 w2 bl) (hz : I 0 4 = 0) : qMet E y_On_undo b_On_undo 1 (some .int) 3 0 0 [.ref (qb E + 0)] S I J (qPi S I J (-3)) := by
  obtain ⟨oT, oR0, oR1, oR2, oR3, oR5, oR6, oR8, oR9, oR10, hI1, hN, hA, hM3, hRe, hBl, hRo, hAc, tA, tR, tT⟩ := hO
  refine qMet.of (L := [some (.ref (qb E + 0))]) (by decide +kernel) (Nat.le_of_ble_eq_true rfl) rfl ?_
  refine lda_n_1_0 (pc := 0) d_On_undo_0 ?_
  refine g_On_258 (pc := 1) rfl d_On_undo_1 (by assumption) ?_
  rw [hz]
  refine r_if_ne (pc := 4) (tgt := 10) d_On_undo_4 (by decide) (fun c => ?_) (fun c => ?_)
  · exact absurd rfl c
  · refine r_bipush (pc := 7) (v := (-3)) d_On_undo_7 rfl ?_
    exact r_iret d_On_undo_9 rfl (by omega) (by omega) (⟨rfl, rfl, rfl, rfl⟩)
theorem c_On_undo1 {c : Nat} (hO : isOn S w0 w1 w2 bl) (hz : I 0 4 = 1) (hok : qMgOK I 60 9999) (hc : I 60 1 = nI c) (hc6 : c ≤ 6) : qMet E y_On_undo b_On_undo 1 (some .int) 3 0 0 [.ref (qb E + 0)] S I J (fun r S' I' J' => r = some (.int (nI c)) ∧ S' = qsetR S 6 5 (some w2) ∧ I' = qmbec I 6 60 ∧ J = J') := by
  obtain ⟨oT, oR0, oR1, oR2, oR3, oR5, oR6, oR8, oR9, oR10, hI1, hN, hA, hM3, hRe, hBl, hRo, hAc, tA, tR, tT⟩ := hO
  have hNN := hN
  have hM0 := hM3
  have nT3 := hM3.1
  have hN0 := hN
  obtain ⟨mT, mA1, mA2, mR0, mR2, mR5, mR6, mR7, mR8, nS, nP, nB, nI0, mRp, mMp⟩ := hN
  refine qMet.of (L := [some (.ref (qb E + 0))]) (by decide +kernel) (Nat.le_of_ble_eq_true rfl) rfl ?_
  refine lda_n_1_0 (pc := 0) d_On_undo_0 ?_
  refine g_On_258 (pc := 1) rfl d_On_undo_1 (by assumption) ?_
  rw [hz]
  refine r_if_ne (pc := 4) (tgt := 10) d_On_undo_4 (by decide) (fun c => ?_) (fun c => ?_)
  · refine lda_n_1_0 (pc := 10) d_On_undo_10 ?_
    refine g_On_23 (pc := 11) rfl d_On_undo_11 (by assumption) (by assumption) ?_
    refine lda_n_1_0 (pc := 14) d_On_undo_14 ?_
    refine g_On_30 (pc := 15) rfl d_On_undo_15 (by assumption) (by assumption) ?_
    refine r_callVN (pc := 18) (As := [.ref (qb E + 60)]) (k := 3) (N := 9) (T := T_Mg) k_On_179 im_Mg_becomes se_Mg_becomes rfl (by decide) rfl (by decide) d_On_undo_18 (by assumption) (c_Mg_becomes hNN hM0 hok (by unfold qApM; omega)) rfl (Nat.le_of_ble_eq_true rfl) (by omega) (by omega) (by omega) (fun v S' I' J' hq => ?_)
    obtain ⟨rfl, rfl, rfl, rfl⟩ := hq
    have oT' : qT (qsetR S 6 5 (some w2)) 0 8 := oT
    have oR1' : qR (qsetR S 6 5 (some w2)) 0 1 = some 6 := by show qup (qR S) 6 5 (some w2) 0 1 = some 6; rw [qup_o (by decide)]; exact oR1
    have mT' : qT (qsetR S 6 5 (some w2)) 6 3 := mT
    refine lda_n_1_0 (pc := 21) d_On_undo_21 ?_
    refine g_On_23 (pc := 22) rfl d_On_undo_22 (by assumption) (by assumption) ?_
    refine g_On_68 (pc := 25) rfl d_On_undo_25 (by assumption) ?_
    rw [qmbec_1 hc hc6]
    exact r_iret d_On_undo_28 rfl (by omega) (by omega) (⟨rfl, rfl, rfl, rfl⟩)
  · exact absurd c (by decide)
end H3
