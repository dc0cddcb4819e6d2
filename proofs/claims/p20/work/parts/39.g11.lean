/-! what can be; what is told; looked at; judged -/
section G11
variable {E : qE} {S : qSh} {I : qI} {J : qJ}
theorem mca_in (x : Int32) : mca x = 116 ∨ mca x = 117 ∨ mca x = 118 := by
  unfold mca
  split
  · omega
  · split <;> omega
theorem c_Md_can {x w y : Int32} {z : Nat} (hM : isMd S) (h : mDay I 9999) (hz : I 114 27 = nI z) (hz5 : z ≤ 5) (hN : ∀ i, i < 5 → ∃ t, t ≤ 20 ∧ I 133 i = nI t) : qMet E y_Md_can b_Md_can 8 (some .int) 5 0 0 [.ref (qb E + 114), .int x, .int w, .int y] S I J (qAsk S I J) := by
  have hT := hM.1
  obtain ⟨-, ⟨c, c6, hc⟩, -⟩ := id h
  refine qMet.of (L := [some (.ref (qb E + 114)), some (.int x), some (.int w), some (.int y), none, none, none, none]) (by decide +kernel) (Nat.le_of_ble_eq_true rfl) rfl ?_
  have bad : qW E y_Md_can b_Md_can (some .int) 5 0 0 (qAsk S I J) 0 0 26 [some (.ref (qb E + 114)), some (.int x), some (.int w), some (.int y), none, none, none, none] [] S I J := by
    refine r_iconst (pc := 26) (v := (-1)) d_Md_can_26 rfl ?_
    exact r_iret d_Md_can_27 rfl (by omega) (by omega) (⟨_, rfl, rfl, mSame.rf, rfl⟩)
  refine lda_n_8_0 (pc := 0) d_Md_can_0 ?_
  refine ldi_n_8_1 (pc := 1) d_Md_can_1 ?_
  refine r_callV (pc := 2) (As := [.int x]) (k := 9) (N := 56) (T := T_Md) k_Md_127 im_Md_isOne se_Md_isOne rfl (by decide) rfl (by decide) d_Md_can_2 hT (c_Md_isOne hM) rfl (Nat.le_of_ble_eq_true rfl) (by omega) (by omega) (by omega) (fun v S' I' J' hq => ?_)
  obtain ⟨rfl, rfl, rfl, rfl⟩ := hq
  rw [hc]
  refine r_if_eq (pc := 5) (tgt := 26) d_Md_can_5 (by decide) (fun c1 => ?_) (fun c1 => ?_)
  · exact bad
  · refine ldi_n_8_2 (pc := 8) d_Md_can_8 ?_
    refine r_iconst (pc := 9) (v := 0) d_Md_can_9 rfl ?_
    refine r_iconst (pc := 10) (v := 2) d_Md_can_10 rfl ?_
    refine r_callS (pc := 11) (As := [.int w, .int 0, .int 2]) k_Md_120 sw_Md_within rfl (by decide) d_Md_can_11 (c_Md_within w 0 2) rfl (Nat.le_of_ble_eq_true rfl) (by omega) (by omega) (by omega) (fun v S' I' J' hq => ?_)
    obtain ⟨rfl, rfl, rfl, rfl⟩ := hq
    refine r_if_eq (pc := 14) (tgt := 26) d_Md_can_14 (by decide) (fun c2 => ?_) (fun c2 => ?_)
    · exact bad
    · refine ldi_n_8_3 (pc := 17) d_Md_can_17 ?_
      refine r_iconst (pc := 18) (v := 0) d_Md_can_18 rfl ?_
      refine r_iconst (pc := 19) (v := 1) d_Md_can_19 rfl ?_
      refine r_callS (pc := 20) (As := [.int y, .int 0, .int 1]) k_Md_120 sw_Md_within rfl (by decide) d_Md_can_20 (c_Md_within y 0 1) rfl (Nat.le_of_ble_eq_true rfl) (by omega) (by omega) (by omega) (fun v S' I' J' hq => ?_)
      obtain ⟨rfl, rfl, rfl, rfl⟩ := hq
      refine r_if_ne (pc := 23) (tgt := 28) d_Md_can_23 (by decide) (fun c3 => ?_) (fun c3 => ?_)
      · obtain ⟨p, hp, rfl⟩ := qisM_y (by omega) c1
        have hp6 : p < 6 := by omega
        have ha := mca_in w
        refine lda_n_8_0 (pc := 28) d_Md_can_28 ?_
        refine ldi_n_8_1 (pc := 29) d_Md_can_29 ?_
        refine ldi_n_8_2 (pc := 30) d_Md_can_30 ?_
        refine r_callV (pc := 31) (As := [.int (nI p), .int w]) (k := 9) (N := 56) (T := T_Md) k_Md_317 im_Md_getOf se_Md_getOf rfl (by decide) rfl (by decide) d_Md_can_31 hT (c_Md_getOf hM hp6) rfl (Nat.le_of_ble_eq_true rfl) (by omega) (by omega) (by omega) (fun v S' I' J' hq => ?_)
        obtain ⟨rfl, rfl, rfl, rfl⟩ := hq
        have e66 : ∀ (K : qI) (m f : Int32), qCanR I (mca w) p K → qW E y_Md_can b_Md_can (some .int) 5 0 0 (qAsk S I J) 0 0 66 [some (.ref (qb E + 114)), some (.int (nI p)), some (.int w), some (.int y), some (.int (I (mca w) p)), some (.int m), some (.int f), some (.int (-1))] [] S K J := by
          intro K m f hK
          refine ldi_8_7 (pc := 66) d_Md_can_66 ?_
          refine r_if_lt (pc := 68) (tgt := 103) d_Md_can_68 (by decide) (fun c4 => ?_) (fun c4 => ?_)
          · refine lda_n_8_0 (pc := 103) d_Md_can_103 ?_
            refine ldi_n_8_1 (pc := 104) d_Md_can_104 ?_
            refine ldi_n_8_2 (pc := 105) d_Md_can_105 ?_
            refine ldi_8_4 (pc := 106) d_Md_can_106 ?_
            refine r_callV (pc := 108) (As := [.int (nI p), .int w, .int (I (mca w) p)]) (k := 9) (N := 56) (T := T_Md) k_Md_320 im_Md_setOf se_Md_setOf rfl (by decide) rfl (by decide) d_Md_can_108 hT (c_Md_setOf hM hp6) rfl (Nat.le_of_ble_eq_true rfl) (by omega) (by omega) (by omega) (fun v S' K2 J' hq => ?_)
            obtain ⟨rfl, rfl, hK2, rfl⟩ := hq
            have hb : mSame I K2 := by rw [hK2]; exact mSame.q130 hK.back
            refine ldi_n_8_3 (pc := 111) d_Md_can_111 ?_
            refine r_if_ne (pc := 112) (tgt := 120) d_Md_can_112 (by decide) (fun c5 => ?_) (fun c5 => ?_)
            · refine ldi_8_6 (pc := 120) d_Md_can_120 ?_
              exact r_iret d_Md_can_122 rfl (by omega) (by omega) (⟨_, rfl, rfl, hb, rfl⟩)
            · refine ldi_8_5 (pc := 115) d_Md_can_115 ?_
              refine r_goto (pc := 117) (tgt := 122) d_Md_can_117 (by decide) ?_
              exact r_iret d_Md_can_122 rfl (by omega) (by omega) (⟨_, rfl, rfl, hb, rfl⟩)
          · exact absurd (by decide) c4
        have lp : ∀ (k : Nat), k < 200 → ∀ (K : qI) (m f : Int32), qCanR I (mca w) p K → qW E y_Md_can b_Md_can (some .int) 5 0 0 (qAsk S I J) 0 0 66 [some (.ref (qb E + 114)), some (.int (nI p)), some (.int w), some (.int y), some (.int (I (mca w) p)), some (.int m), some (.int f), some (.int (nI k))] [] S K J := by
          intro k
          induction k with
          | zero =>
            intro hk K m f hK
            have nxt : ∀ (K : qI) (m f : Int32), qCanR I (mca w) p K → qW E y_Md_can b_Md_can (some .int) 5 0 0 (qAsk S I J) 0 0 97 [some (.ref (qb E + 114)), some (.int (nI p)), some (.int w), some (.int y), some (.int (I (mca w) p)), some (.int m), some (.int f), some (.int (nI 0))] [] S K J := by
              intro K m f hK
              refine inc_8_7 (pc := 97) (w := (-1)) d_Md_can_97 rfl rfl ?_
              refine r_goto (pc := 100) (tgt := 66) d_Md_can_100 (by decide) ?_
              rw [show nI 0 + (-1) = -1 from by decide]
              exact e66 K m f hK
            refine ldi_8_7 (pc := 66) d_Md_can_66 ?_
            refine r_if_lt (pc := 68) (tgt := 103) d_Md_can_68 (by decide) (fun c4 => ?_) (fun c4 => ?_)
            · exact absurd c4 (by decide)
            · refine lda_n_8_0 (pc := 71) d_Md_can_71 ?_
              refine ldi_n_8_1 (pc := 72) d_Md_can_72 ?_
              refine ldi_n_8_2 (pc := 73) d_Md_can_73 ?_
              refine ldi_8_7 (pc := 74) d_Md_can_74 ?_
              refine r_callV (pc := 76) (As := [.int (nI p), .int w, .int (nI 0)]) (k := 9) (N := 56) (T := T_Md) k_Md_320 im_Md_setOf se_Md_setOf rfl (by decide) rfl (by decide) d_Md_can_76 hT (c_Md_setOf hM hp6) rfl (Nat.le_of_ble_eq_true rfl) (by omega) (by omega) (by omega) (fun v S' K2 J' hq => ?_)
              obtain ⟨rfl, rfl, hK2, rfl⟩ := hq
              have h2 : qCanR I (mca w) p K2 := by rw [hK2]; exact hK.up
              have hD : mDay K2 9999 := h2.day (by omega) h
              refine lda_n_8_0 (pc := 79) d_Md_can_79 ?_
              refine ldi_n_8_1 (pc := 80) d_Md_can_80 ?_
              refine r_callV (pc := 81) (As := [.int (nI p)]) (k := 9) (N := 56) (T := T_Md) k_Md_324 im_Md_isSeen se_Md_isSeen rfl (by decide) rfl (by decide) d_Md_can_81 hT (c_Md_isSeen (z := z) hM hD hp6 (by rw [h2.1 114 (by decide) (by omega)]; exact hz) hz5 (fun i hi => by rw [h2.1 133 (by decide) (by omega)]; exact hN i hi)) rfl (Nat.le_of_ble_eq_true rfl) (by omega) (by omega) (by omega) (fun v S' K3 J' hq => ?_)
              obtain ⟨⟨r, rfl, hr⟩, rfl, hg, rfl⟩ := hq
              have h3 := h2.q (by omega) hg
              refine r_if_ne (pc := 84) (tgt := 90) d_Md_can_84 (by decide) (fun c5 => ?_) (fun c5 => ?_)
              · refine inc_8_5 (pc := 90) (w := 1) d_Md_can_90 rfl rfl ?_
                refine ldi_8_7 (pc := 93) d_Md_can_93 ?_
                refine sti_8_6 (pc := 95) d_Md_can_95 rfl ?_
                exact nxt K3 _ _ h3
              · refine r_goto (pc := 87) (tgt := 97) d_Md_can_87 (by decide) ?_
                exact nxt K3 _ _ h3
          | succ k ih =>
            intro hk K m f hK
            have nxt : ∀ (K : qI) (m f : Int32), qCanR I (mca w) p K → qW E y_Md_can b_Md_can (some .int) 5 0 0 (qAsk S I J) 0 0 97 [some (.ref (qb E + 114)), some (.int (nI p)), some (.int w), some (.int y), some (.int (I (mca w) p)), some (.int m), some (.int f), some (.int (nI (k + 1)))] [] S K J := by
              intro K m f hK
              refine inc_8_7 (pc := 97) (w := (-1)) d_Md_can_97 rfl rfl ?_
              refine r_goto (pc := 100) (tgt := 66) d_Md_can_100 (by decide) ?_
              rw [pk_m1]
              exact ih (by omega) K m f hK
            refine ldi_8_7 (pc := 66) d_Md_can_66 ?_
            refine r_if_lt (pc := 68) (tgt := 103) d_Md_can_68 (by decide) (fun c4 => ?_) (fun c4 => ?_)
            · exact absurd c4 (nI_pos (by omega))
            · refine lda_n_8_0 (pc := 71) d_Md_can_71 ?_
              refine ldi_n_8_1 (pc := 72) d_Md_can_72 ?_
              refine ldi_n_8_2 (pc := 73) d_Md_can_73 ?_
              refine ldi_8_7 (pc := 74) d_Md_can_74 ?_
              refine r_callV (pc := 76) (As := [.int (nI p), .int w, .int (nI (k + 1))]) (k := 9) (N := 56) (T := T_Md) k_Md_320 im_Md_setOf se_Md_setOf rfl (by decide) rfl (by decide) d_Md_can_76 hT (c_Md_setOf hM hp6) rfl (Nat.le_of_ble_eq_true rfl) (by omega) (by omega) (by omega) (fun v S' K2 J' hq => ?_)
              obtain ⟨rfl, rfl, hK2, rfl⟩ := hq
              have h2 : qCanR I (mca w) p K2 := by rw [hK2]; exact hK.up
              have hD : mDay K2 9999 := h2.day (by omega) h
              refine lda_n_8_0 (pc := 79) d_Md_can_79 ?_
              refine ldi_n_8_1 (pc := 80) d_Md_can_80 ?_
              refine r_callV (pc := 81) (As := [.int (nI p)]) (k := 9) (N := 56) (T := T_Md) k_Md_324 im_Md_isSeen se_Md_isSeen rfl (by decide) rfl (by decide) d_Md_can_81 hT (c_Md_isSeen (z := z) hM hD hp6 (by rw [h2.1 114 (by decide) (by omega)]; exact hz) hz5 (fun i hi => by rw [h2.1 133 (by decide) (by omega)]; exact hN i hi)) rfl (Nat.le_of_ble_eq_true rfl) (by omega) (by omega) (by omega) (fun v S' K3 J' hq => ?_)
              obtain ⟨⟨r, rfl, hr⟩, rfl, hg, rfl⟩ := hq
              have h3 := h2.q (by omega) hg
              refine r_if_ne (pc := 84) (tgt := 90) d_Md_can_84 (by decide) (fun c5 => ?_) (fun c5 => ?_)
              · refine inc_8_5 (pc := 90) (w := 1) d_Md_can_90 rfl rfl ?_
                refine ldi_8_7 (pc := 93) d_Md_can_93 ?_
                refine sti_8_6 (pc := 95) d_Md_can_95 rfl ?_
                exact nxt K3 _ _ h3
              · refine r_goto (pc := 87) (tgt := 97) d_Md_can_87 (by decide) ?_
                exact nxt K3 _ _ h3
        have h0 : qCanR I (mca w) p I := ⟨fun _ _ _ => rfl, fun _ _ => rfl⟩
        refine sti_8_4 (pc := 34) d_Md_can_34 rfl ?_
        refine r_iconst (pc := 36) (v := 0) d_Md_can_36 rfl ?_
        refine sti_8_5 (pc := 37) d_Md_can_37 rfl ?_
        refine r_bipush (pc := 39) (v := (-5)) d_Md_can_39 rfl ?_
        refine sti_8_6 (pc := 41) d_Md_can_41 rfl ?_
        refine ldi_n_8_2 (pc := 43) d_Md_can_43 ?_
        refine r_if_ne (pc := 44) (tgt := 52) d_Md_can_44 (by decide) (fun c4 => ?_) (fun c4 => ?_)
        · refine ldi_n_8_2 (pc := 52) d_Md_can_52 ?_
          refine r_iconst (pc := 53) (v := 1) d_Md_can_53 rfl ?_
          refine r_icmp_ne (pc := 54) (tgt := 62) d_Md_can_54 (by decide) (fun c5 => ?_) (fun c5 => ?_)
          · refine r_bipush (pc := 62) (v := 9) d_Md_can_62 rfl ?_
            refine sti_8_7 (pc := 64) d_Md_can_64 rfl ?_
            exact lp 9 (by omega) I _ _ h0
          · refine r_bipush (pc := 57) (v := 60) d_Md_can_57 rfl ?_
            refine r_goto (pc := 59) (tgt := 64) d_Md_can_59 (by decide) ?_
            refine sti_8_7 (pc := 64) d_Md_can_64 rfl ?_
            exact lp 60 (by omega) I _ _ h0
        · refine r_bipush (pc := 47) (v := 99) d_Md_can_47 rfl ?_
          refine r_goto (pc := 49) (tgt := 64) d_Md_can_49 (by decide) ?_
          refine sti_8_7 (pc := 64) d_Md_can_64 rfl ?_
          exact lp 99 (by omega) I _ _ h0
      · exact bad
theorem c_Md_told {x : Int32} (hM : isMd S) (h : mDay I 9999) : qMet E y_Md_told b_Md_told 2 (some .int) 6 0 0 [.ref (qb E + 114), .int x] S I J (qAsk S I J) := by
  have hT := hM.1
  obtain ⟨⟨n, i1, i2⟩, ⟨c, c6, hc⟩, ⟨l, l6, hl⟩, hL, -⟩ := id h
  refine qMet.of (L := [some (.ref (qb E + 114)), some (.int x)]) (by decide +kernel) (Nat.le_of_ble_eq_true rfl) rfl ?_
  refine ldi_n_2_1 (pc := 0) d_Md_told_0 ?_
  by_cases k0 : x = 0
  · rw [k0]
    refine r_tableIn (pc := 1) (off := 51) (tgt := 52) d_Md_told_1 (by decide) (by decide) (by decide +kernel) (by decide) ?_
    refine lda_n_2_0 (pc := 52) d_Md_told_52 ?_
    refine g_Md_135 (pc := 53) rfl d_Md_told_53 (by assumption) ?_
    exact r_iret d_Md_told_56 rfl (by omega) (by omega) (⟨_, rfl, rfl, mSame.rf, rfl⟩)
  by_cases k1 : x = 1
  · rw [k1]
    refine r_tableIn (pc := 1) (off := 56) (tgt := 57) d_Md_told_1 (by decide) (by decide) (by decide +kernel) (by decide) ?_
    refine lda_n_2_0 (pc := 57) d_Md_told_57 ?_
    refine r_callV (pc := 58) (As := []) (k := 9) (N := 56) (T := T_Md) k_Md_229 im_Md_lostBy se_Md_lostBy rfl (by decide) rfl (by decide) d_Md_told_58 hT (c_Md_lostBy hM i1 i2) rfl (Nat.le_of_ble_eq_true rfl) (by omega) (by omega) (by omega) (fun v S' I' J' hq => ?_)
    obtain ⟨rfl, rfl, rfl, rfl⟩ := hq
    exact r_iret d_Md_told_61 rfl (by omega) (by omega) (⟨_, rfl, rfl, mSame.rf, rfl⟩)
  by_cases k2 : x = 2
  · rw [k2]
    refine r_tableIn (pc := 1) (off := 61) (tgt := 62) d_Md_told_1 (by decide) (by decide) (by decide +kernel) (by decide) ?_
    refine lda_n_2_0 (pc := 62) d_Md_told_62 ?_
    refine lda_n_2_0 (pc := 63) d_Md_told_63 ?_
    refine g_Md_135 (pc := 64) rfl d_Md_told_64 (by assumption) ?_
    refine r_callV (pc := 67) (As := [.int (I 114 10)]) (k := 9) (N := 56) (T := T_Md) k_Md_241 im_Md_isLost se_Md_isLost rfl (by decide) rfl (by decide) d_Md_told_67 hT (c_Md_isLost hM i1 i2) rfl (Nat.le_of_ble_eq_true rfl) (by omega) (by omega) (by omega) (fun v S' I' J' hq => ?_)
    obtain ⟨rfl, rfl, rfl, rfl⟩ := hq
    refine r_if_eq (pc := 70) (tgt := 77) d_Md_told_70 (by decide) (fun c2 => ?_) (fun c2 => ?_)
    · refine r_iconst (pc := 77) (v := 0) d_Md_told_77 rfl ?_
      exact r_iret d_Md_told_78 rfl (by omega) (by omega) (⟨_, rfl, rfl, mSame.rf, rfl⟩)
    · refine r_iconst (pc := 73) (v := 1) d_Md_told_73 rfl ?_
      refine r_goto (pc := 74) (tgt := 78) d_Md_told_74 (by decide) ?_
      exact r_iret d_Md_told_78 rfl (by omega) (by omega) (⟨_, rfl, rfl, mSame.rf, rfl⟩)
  by_cases k3 : x = 3
  · rw [k3]
    refine r_tableIn (pc := 1) (off := 78) (tgt := 79) d_Md_told_1 (by decide) (by decide) (by decide +kernel) (by decide) ?_
    refine lda_n_2_0 (pc := 79) d_Md_told_79 ?_
    refine r_callV (pc := 80) (As := []) (k := 9) (N := 56) (T := T_Md) k_Md_253 im_Md_allHurt se_Md_allHurt rfl (by decide) rfl (by decide) d_Md_told_80 hT (c_Md_allHurt hM hc c6) rfl (Nat.le_of_ble_eq_true rfl) (by omega) (by omega) (by omega) (fun v S' I' J' hq => ?_)
    obtain ⟨rfl, rfl, rfl, rfl⟩ := hq
    exact r_iret d_Md_told_83 rfl (by omega) (by omega) (⟨_, rfl, rfl, mSame.rf, rfl⟩)
  by_cases k4 : x = 4
  · rw [k4]
    refine r_tableIn (pc := 1) (off := 83) (tgt := 84) d_Md_told_1 (by decide) (by decide) (by decide +kernel) (by decide) ?_
    refine lda_n_2_0 (pc := 84) d_Md_told_84 ?_
    refine r_callV (pc := 85) (As := []) (k := 9) (N := 56) (T := T_Md) k_Md_256 im_Md_allDone se_Md_allDone rfl (by decide) rfl (by decide) d_Md_told_85 hT (c_Md_allDone hM hc c6) rfl (Nat.le_of_ble_eq_true rfl) (by omega) (by omega) (by omega) (fun v S' I' J' hq => ?_)
    obtain ⟨rfl, rfl, rfl, rfl⟩ := hq
    exact r_iret d_Md_told_88 rfl (by omega) (by omega) (⟨_, rfl, rfl, mSame.rf, rfl⟩)
  by_cases k5 : x = 5
  · rw [k5]
    refine r_tableIn (pc := 1) (off := 88) (tgt := 89) d_Md_told_1 (by decide) (by decide) (by decide +kernel) (by decide) ?_
    refine lda_n_2_0 (pc := 89) d_Md_told_89 ?_
    refine r_callV (pc := 90) (As := []) (k := 9) (N := 56) (T := T_Md) k_Md_244 im_Md_todays se_Md_todays rfl (by decide) rfl (by decide) d_Md_told_90 hT (c_Md_todays hM i1 i2 hl l6 hL) rfl (Nat.le_of_ble_eq_true rfl) (by omega) (by omega) (by omega) (fun v S' I' J' hq => ?_)
    obtain ⟨rfl, rfl, rfl, rfl⟩ := hq
    exact r_iret d_Md_told_93 rfl (by omega) (by omega) (⟨_, rfl, rfl, mSame.rf, rfl⟩)
  by_cases k6 : x = 6
  · rw [k6]
    refine r_tableIn (pc := 1) (off := 93) (tgt := 94) d_Md_told_1 (by decide) (by decide) (by decide +kernel) (by decide) ?_
    refine lda_n_2_0 (pc := 94) d_Md_told_94 ?_
    refine r_callV (pc := 95) (As := []) (k := 9) (N := 56) (T := T_Md) k_Md_259 im_Md_agreed se_Md_agreed rfl (by decide) rfl (by decide) d_Md_told_95 hT (c_Md_agreed hM h) rfl (Nat.le_of_ble_eq_true rfl) (by omega) (by omega) (by omega) (fun v S' I' J' hq => ?_)
    obtain ⟨r, rfl, rfl, hs, rfl⟩ := hq
    exact r_iret d_Md_told_98 rfl (by omega) (by omega) (⟨_, rfl, rfl, hs, rfl⟩)
  by_cases k7 : x = 7
  · rw [k7]
    refine r_tableIn (pc := 1) (off := 98) (tgt := 99) d_Md_told_1 (by decide) (by decide) (by decide +kernel) (by decide) ?_
    refine lda_n_2_0 (pc := 99) d_Md_told_99 ?_
    refine r_iconst (pc := 100) (v := 0) d_Md_told_100 rfl ?_
    refine r_callV (pc := 101) (As := [.int 0]) (k := 9) (N := 56) (T := T_Md) k_Md_262 im_Md_dear se_Md_dear rfl (by decide) rfl (by decide) d_Md_told_101 hT (c_Md_dear hM h) rfl (Nat.le_of_ble_eq_true rfl) (by omega) (by omega) (by omega) (fun v S' I' J' hq => ?_)
    obtain ⟨r, rfl, rfl, hs, rfl⟩ := hq
    exact r_iret d_Md_told_104 rfl (by omega) (by omega) (⟨_, rfl, rfl, hs, rfl⟩)
  by_cases k8 : x = 8
  · rw [k8]
    refine r_tableIn (pc := 1) (off := 104) (tgt := 105) d_Md_told_1 (by decide) (by decide) (by decide +kernel) (by decide) ?_
    refine lda_n_2_0 (pc := 105) d_Md_told_105 ?_
    refine r_iconst (pc := 106) (v := 1) d_Md_told_106 rfl ?_
    refine r_callV (pc := 107) (As := [.int 1]) (k := 9) (N := 56) (T := T_Md) k_Md_262 im_Md_dear se_Md_dear rfl (by decide) rfl (by decide) d_Md_told_107 hT (c_Md_dear hM h) rfl (Nat.le_of_ble_eq_true rfl) (by omega) (by omega) (by omega) (fun v S' I' J' hq => ?_)
    obtain ⟨r, rfl, rfl, hs, rfl⟩ := hq
    exact r_iret d_Md_told_110 rfl (by omega) (by omega) (⟨_, rfl, rfl, hs, rfl⟩)
  refine r_tableOut (pc := 1) (tgt := 111) d_Md_told_1 (by simp only [← Int32.toInt_inj, Int32.reduceToInt] at k0 k1 k2 k3 k4 k5 k6 k7 k8; omega) (by decide) ?_
  refine r_iconst (pc := 111) (v := (-1)) d_Md_told_111 rfl ?_
  exact r_iret d_Md_told_112 rfl (by omega) (by omega) (⟨_, rfl, rfl, mSame.rf, rfl⟩)
end G11
