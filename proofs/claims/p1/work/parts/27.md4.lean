/-! the reference's calls on a fresh object: days, tapes -/
theorem q60_y {n : Int32} (h : ¬ qwithin n 0 60 = 0) : ∃ m, m ≤ 60 ∧ n = nI m := by
  obtain ⟨h1, h2⟩ := qwithin_y h
  rw [Int32.le_iff_toInt_le] at h1 h2
  have e1 : (0 : Int32).toInt = 0 := rfl
  have e2 : (60 : Int32).toInt = 60 := rfl
  rw [e1] at h1
  rw [e2] at h2
  refine ⟨n.toInt.toNat, by omega, ?_⟩
  rw [← Int32.toInt_inj, nI_toInt (by omega)]; omega
theorem q01_y {x : Int32} (h : ¬ qwithin x 0 1 = 0) (h0 : ¬ x = 0) : x = 1 := by
  obtain ⟨h1, h2⟩ := qwithin_y h
  rw [Int32.le_iff_toInt_le] at h1 h2
  rw [← Int32.toInt_inj] at h0 ⊢
  have e1 : (0 : Int32).toInt = 0 := rfl
  have e2 : (1 : Int32).toInt = 1 := rfl
  rw [e1] at h1 h0
  rw [e2] at h2 ⊢
  omega
theorem q0a (m : Nat) : (0 : Int32) + nI m = nI m := by rw [q0, nI_add, Nat.zero_add]
section MD4
variable {E : qE} {S : qSh} {I : qI} {J : qJ}
def a_Md_pass (n : Int32) : Int32 := if qwithin n 0 60 = 0 then -2 else n
theorem k_Md_pass {n : Int32} (hM : isMd S) (hF : ∀ j, j ≠ 18 → I 114 j = 0) (hh : I 114 18 = -1) : qMet E y_Md_pass b_Md_pass 4 (some .int) 4 0 0 [.ref (qb E + 114), .int n] S I J (fun r S' I' J' => r = some (.int (a_Md_pass n))) := by
  have hT := hM.1
  refine qMet.of (L := [some (.ref (qb E + 114)), some (.int n), none, none]) (by decide +kernel) (Nat.le_of_ble_eq_true rfl) rfl ?_
  refine ldi_n_4_1 (pc := 0) d_Md_pass_0 ?_
  refine r_iconst (pc := 1) (v := 0) d_Md_pass_1 rfl ?_
  refine r_bipush (pc := 2) (v := 60) d_Md_pass_2 rfl ?_
  refine r_callS (pc := 4) (As := [.int n, .int 0, .int 60]) k_Md_120 sw_Md_within rfl (by decide) d_Md_pass_4 (c_Md_within n 0 60) rfl (Nat.le_of_ble_eq_true rfl) (by omega) (by omega) (by omega) (fun v S' I' J' hq => ?_)
  obtain ⟨rfl, rfl, rfl, rfl⟩ := hq
  refine r_if_ne (pc := 7) (tgt := 13) d_Md_pass_7 (by decide) (fun c1 => ?_) (fun c1 => ?_)
  · obtain ⟨m, hm, rfl⟩ := q60_y c1
    refine lda_n_4_0 (pc := 13) d_Md_pass_13 ?_
    refine g_Md_135 (pc := 14) rfl d_Md_pass_14 (by assumption) ?_
    rw [hF 10 (by decide)]
    refine ldi_n_4_1 (pc := 17) d_Md_pass_17 ?_
    refine r_iadd (pc := 18) d_Md_pass_18 ?_
    refine r_sipush (pc := 19) (v := 9999) d_Md_pass_19 rfl ?_
    rw [q0a]
    refine r_icmp_le (pc := 22) (tgt := 28) d_Md_pass_22 (by decide) (fun c2 => ?_) (fun c2 => ?_)
    · refine r_iconst (pc := 28) (v := 0) d_Md_pass_28 rfl ?_
      refine sti_n_4_2 (pc := 29) d_Md_pass_29 rfl ?_
      rw [q0]
      have key : ∀ k, k ≤ m → ∀ (I2 : qI) (a3 : Option Value), I2 114 0 = 0 → I2 114 8 = 0 → I2 114 18 = -1 → I2 114 10 = nI k → qW E y_Md_pass b_Md_pass (some .int) 4 0 0 (fun r S' I' J' => r = some (.int (a_Md_pass (nI m)))) 0 0 30 [some (.ref (qb E + 114)), some (.int (nI m)), some (.int (nI k)), a3] [] S I2 J := by
        refine qfor m ?_ ?_
        · intro I2 a3 h0 h8 h18 h10
          refine ldi_n_4_2 (pc := 30) d_Md_pass_30 ?_
          refine ldi_n_4_1 (pc := 31) d_Md_pass_31 ?_
          refine r_icmp_ge (pc := 32) (tgt := 78) d_Md_pass_32 (by decide) (fun c => ?_) (fun c => ?_)
          · refine lda_n_4_0 (pc := 78) d_Md_pass_78 ?_
            refine g_Md_135 (pc := 79) rfl d_Md_pass_79 (by assumption) ?_
            rw [h10]
            exact r_iret d_Md_pass_82 rfl (by omega) (by omega) (by rw [a_Md_pass, if_neg c1])
          · exact absurd (nI_le (Nat.le_refl m) (by omega)) c
        · intro k hk ih I2 a3 h0 h8 h18 h10
          refine ldi_n_4_2 (pc := 30) d_Md_pass_30 ?_
          refine ldi_n_4_1 (pc := 31) d_Md_pass_31 ?_
          refine r_icmp_ge (pc := 32) (tgt := 78) d_Md_pass_32 (by decide) (fun c => ?_) (fun c => ?_)
          · exact absurd c (nI_ge hk (by omega))
          · refine lda_n_4_0 (pc := 35) d_Md_pass_35 ?_
            refine r_callV (pc := 36) (As := []) (k := 9) (N := 56) (T := T_Md) k_Md_250 im_Md_goesDay se_Md_goesDay rfl (by decide) rfl (by decide) d_Md_pass_36 hT (c_Md_goesDay0 hM h0 h8 h18) rfl (Nat.le_of_ble_eq_true rfl) (by omega) (by omega) (by omega) (fun v S' I3 J' hq => ?_)
            obtain ⟨rfl, rfl, hI3, rfl⟩ := hq
            have e0 : I3 114 0 = 0 := by rw [hI3, qup_j (by decide)]; exact h0
            have e8 : I3 114 8 = 0 := by rw [hI3, qup_j (by decide)]; exact h8
            have e18 : I3 114 18 = -1 := by rw [hI3, qup_j (by decide)]; exact h18
            have e10 : I3 114 10 = nI (k + 1) := by rw [hI3, qup_at, h10, q1]
            refine r_iconst (pc := 39) (v := 0) d_Md_pass_39 rfl ?_
            refine sti_n_4_3 (pc := 40) d_Md_pass_40 rfl ?_
            refine ldi_n_4_3 (pc := 41) d_Md_pass_41 ?_
            refine lda_n_4_0 (pc := 42) d_Md_pass_42 ?_
            refine g_Md_117 (pc := 43) rfl d_Md_pass_43 (by assumption) ?_
            rw [e0]
            refine r_icmp_ge (pc := 46) (tgt := 72) d_Md_pass_46 (by decide) (fun c3 => ?_) (fun c3 => ?_)
            · refine inc_4_2 (pc := 72) (w := 1) d_Md_pass_72 rfl rfl ?_
              refine r_goto (pc := 75) (tgt := 30) d_Md_pass_75 (by decide) ?_
              rw [q1]
              exact ih _ _ e0 e8 e18 e10
            · exact absurd (by decide) c3
      exact key 0 (by omega) I none (hF 0 (by decide)) (hF 8 (by decide)) hh (by rw [hF 10 (by decide), q0])
    · exact absurd (show nI m ≤ nI 9999 from nI_le (by omega) (by omega)) c2
  · refine r_bipush (pc := 10) (v := (-2)) d_Md_pass_10 rfl ?_
    exact r_iret d_Md_pass_12 rfl (by omega) (by omega) (by rw [a_Md_pass, if_pos c1])
def a_Md_on (n x : Int32) : Int32 := if qwithin x 0 1 = 0 then -1 else if qwithin n 0 60 = 0 then -2 else 0
theorem k_Md_on {n x : Int32} (hM : isMd S) (hF : ∀ j, j ≠ 18 → I 114 j = 0) (hh : I 114 18 = -1) : qMet E y_Md_on b_Md_on 4 (some .int) 4 0 0 [.ref (qb E + 114), .int n, .int x] S I J (fun r S' I' J' => r = some (.int (a_Md_on n x))) := by
  have hT := hM.1
  have f41 := hM.r 25 rfl
  have g41 := hM.a 25 rfl
  refine qMet.of (L := [some (.ref (qb E + 114)), some (.int n), some (.int x), none]) (by decide +kernel) (Nat.le_of_ble_eq_true rfl) rfl ?_
  refine ldi_n_4_2 (pc := 0) d_Md_on_0 ?_
  refine r_iconst (pc := 1) (v := 0) d_Md_on_1 rfl ?_
  refine r_iconst (pc := 2) (v := 1) d_Md_on_2 rfl ?_
  refine r_callS (pc := 3) (As := [.int x, .int 0, .int 1]) k_Md_120 sw_Md_within rfl (by decide) d_Md_on_3 (c_Md_within x 0 1) rfl (Nat.le_of_ble_eq_true rfl) (by omega) (by omega) (by omega) (fun v S' I' J' hq => ?_)
  obtain ⟨rfl, rfl, rfl, rfl⟩ := hq
  refine r_if_ne (pc := 6) (tgt := 22) d_Md_on_6 (by decide) (fun c1 => ?_) (fun c1 => ?_)
  · refine ldi_n_4_1 (pc := 22) d_Md_on_22 ?_
    refine r_iconst (pc := 23) (v := 0) d_Md_on_23 rfl ?_
    refine r_bipush (pc := 24) (v := 60) d_Md_on_24 rfl ?_
    refine r_callS (pc := 26) (As := [.int n, .int 0, .int 60]) k_Md_120 sw_Md_within rfl (by decide) d_Md_on_26 (c_Md_within n 0 60) rfl (Nat.le_of_ble_eq_true rfl) (by omega) (by omega) (by omega) (fun v S' I' J' hq => ?_)
    obtain ⟨rfl, rfl, rfl, rfl⟩ := hq
    refine r_if_ne (pc := 29) (tgt := 35) d_Md_on_29 (by decide) (fun c2 => ?_) (fun c2 => ?_)
    · obtain ⟨m, hm, rfl⟩ := q60_y c2
      refine lda_n_4_0 (pc := 35) d_Md_on_35 ?_
      refine lda_n_4_0 (pc := 36) d_Md_on_36 ?_
      refine g_Md_88 (pc := 37) rfl d_Md_on_37 (by assumption) (by assumption) ?_
      refine r_callV (pc := 40) (As := [.ref (qb E + 140)]) (k := 9) (N := 56) (T := T_Md) k_Md_265 im_Md_keep se_Md_keep rfl (by decide) rfl (by decide) d_Md_on_40 hT (c_Md_keep0 hM g41) rfl (Nat.le_of_ble_eq_true rfl) (by omega) (by omega) (by omega) (fun v S' I3 J' hq => ?_)
      obtain ⟨rfl, rfl, hK, rfl⟩ := hq
      have hK0 : I3 114 = I 114 := hK 114 (by decide)
      refine r_iconst (pc := 43) (v := 0) d_Md_on_43 rfl ?_
      refine sti_n_4_3 (pc := 44) d_Md_on_44 rfl ?_
      rw [q0]
      have key : ∀ k, k ≤ m → ∀ (I2 : qI), I2 114 0 = 0 → I2 114 8 = 0 → I2 114 18 = -1 → qW E y_Md_on b_Md_on (some .int) 4 0 0 (fun r S' I' J' => r = some (.int (a_Md_on (nI m) x))) 0 0 45 [some (.ref (qb E + 114)), some (.int (nI m)), some (.int x), some (.int (nI k))] [] S I2 J := by
        refine qfor m ?_ ?_
        · intro I2 h0 h8 h18
          refine ldi_n_4_3 (pc := 45) d_Md_on_45 ?_
          refine ldi_n_4_1 (pc := 46) d_Md_on_46 ?_
          refine r_icmp_ge (pc := 47) (tgt := 60) d_Md_on_47 (by decide) (fun c => ?_) (fun c => ?_)
          · refine ldi_n_4_2 (pc := 60) d_Md_on_60 ?_
            refine r_if_ne (pc := 61) (tgt := 71) d_Md_on_61 (by decide) (fun c3 => ?_) (fun c3 => ?_)
            · refine ldi_n_4_2 (pc := 71) d_Md_on_71 ?_
              refine r_iconst (pc := 72) (v := 1) d_Md_on_72 rfl ?_
              refine r_icmp_ne (pc := 73) (tgt := 83) d_Md_on_73 (by decide) (fun c4 => ?_) (fun c4 => ?_)
              · exact absurd (q01_y c1 c3) c4
              · refine lda_n_4_0 (pc := 76) d_Md_on_76 ?_
                refine r_callV (pc := 77) (As := []) (k := 9) (N := 56) (T := T_Md) k_Md_256 im_Md_allDone se_Md_allDone rfl (by decide) rfl (by decide) d_Md_on_77 hT (c_Md_allDone0 hM h0) rfl (Nat.le_of_ble_eq_true rfl) (by omega) (by omega) (by omega) (fun v S' I' J' hq => ?_)
                obtain ⟨rfl, rfl, rfl, rfl⟩ := hq
                refine r_goto (pc := 80) (tgt := 92) d_Md_on_80 (by decide) ?_
                refine sti_n_4_3 (pc := 92) d_Md_on_92 rfl ?_
                refine lda_n_4_0 (pc := 93) d_Md_on_93 ?_
                refine lda_n_4_0 (pc := 94) d_Md_on_94 ?_
                refine g_Md_88 (pc := 95) rfl d_Md_on_95 (by assumption) (by assumption) ?_
                refine r_callV (pc := 98) (As := [.ref (qb E + 140)]) (k := 9) (N := 56) (T := T_Md) k_Md_269 im_Md_again se_Md_again rfl (by decide) rfl (by decide) d_Md_on_98 hT (c_Md_again0 hM g41) rfl (Nat.le_of_ble_eq_true rfl) (by omega) (by omega) (by omega) (fun v S' I' J' hq => ?_)
                obtain ⟨rfl, rfl, -, rfl⟩ := hq
                refine ldi_n_4_3 (pc := 101) d_Md_on_101 ?_
                exact r_iret d_Md_on_102 rfl (by omega) (by omega) (by rw [a_Md_on, if_neg c1, if_neg c2])
            · refine lda_n_4_0 (pc := 64) d_Md_on_64 ?_
              refine r_callV (pc := 65) (As := []) (k := 9) (N := 56) (T := T_Md) k_Md_253 im_Md_allHurt se_Md_allHurt rfl (by decide) rfl (by decide) d_Md_on_65 hT (c_Md_allHurt0 hM h0) rfl (Nat.le_of_ble_eq_true rfl) (by omega) (by omega) (by omega) (fun v S' I' J' hq => ?_)
              obtain ⟨rfl, rfl, rfl, rfl⟩ := hq
              refine r_goto (pc := 68) (tgt := 92) d_Md_on_68 (by decide) ?_
              refine sti_n_4_3 (pc := 92) d_Md_on_92 rfl ?_
              refine lda_n_4_0 (pc := 93) d_Md_on_93 ?_
              refine lda_n_4_0 (pc := 94) d_Md_on_94 ?_
              refine g_Md_88 (pc := 95) rfl d_Md_on_95 (by assumption) (by assumption) ?_
              refine r_callV (pc := 98) (As := [.ref (qb E + 140)]) (k := 9) (N := 56) (T := T_Md) k_Md_269 im_Md_again se_Md_again rfl (by decide) rfl (by decide) d_Md_on_98 hT (c_Md_again0 hM g41) rfl (Nat.le_of_ble_eq_true rfl) (by omega) (by omega) (by omega) (fun v S' I' J' hq => ?_)
              obtain ⟨rfl, rfl, -, rfl⟩ := hq
              refine ldi_n_4_3 (pc := 101) d_Md_on_101 ?_
              exact r_iret d_Md_on_102 rfl (by omega) (by omega) (by rw [a_Md_on, if_neg c1, if_neg c2])
          · exact absurd (nI_le (Nat.le_refl m) (by omega)) c
        · intro k hk ih I2 h0 h8 h18
          refine ldi_n_4_3 (pc := 45) d_Md_on_45 ?_
          refine ldi_n_4_1 (pc := 46) d_Md_on_46 ?_
          refine r_icmp_ge (pc := 47) (tgt := 60) d_Md_on_47 (by decide) (fun c => ?_) (fun c => ?_)
          · exact absurd c (nI_ge hk (by omega))
          · refine lda_n_4_0 (pc := 50) d_Md_on_50 ?_
            refine r_callV (pc := 51) (As := []) (k := 9) (N := 56) (T := T_Md) k_Md_250 im_Md_goesDay se_Md_goesDay rfl (by decide) rfl (by decide) d_Md_on_51 hT (c_Md_goesDay0 hM h0 h8 h18) rfl (Nat.le_of_ble_eq_true rfl) (by omega) (by omega) (by omega) (fun v S' I4 J' hq => ?_)
            obtain ⟨rfl, rfl, hI4, rfl⟩ := hq
            have e0 : I4 114 0 = 0 := by rw [hI4, qup_j (by decide)]; exact h0
            have e8 : I4 114 8 = 0 := by rw [hI4, qup_j (by decide)]; exact h8
            have e18 : I4 114 18 = -1 := by rw [hI4, qup_j (by decide)]; exact h18
            refine inc_4_3 (pc := 54) (w := 1) d_Md_on_54 rfl rfl ?_
            refine r_goto (pc := 57) (tgt := 45) d_Md_on_57 (by decide) ?_
            rw [q1]
            exact ih _ e0 e8 e18
      exact key 0 (by omega) I3 (by rw [hK0]; exact hF 0 (by decide)) (by rw [hK0]; exact hF 8 (by decide)) (by rw [hK0]; exact hh)
    · refine r_bipush (pc := 32) (v := (-2)) d_Md_on_32 rfl ?_
      exact r_iret d_Md_on_34 rfl (by omega) (by omega) (by rw [a_Md_on, if_neg c1, if_pos c2])
  · refine lda_n_4_0 (pc := 9) d_Md_on_9 ?_
    refine ldi_n_4_2 (pc := 10) d_Md_on_10 ?_
    refine r_bipush (pc := 11) (v := 10) d_Md_on_11 rfl ?_
    refine r_isub (pc := 13) d_Md_on_13 ?_
    refine r_callV (pc := 14) (As := [.int (x - 10)]) (k := 9) (N := 56) (T := T_Md) k_Md_127 im_Md_isOne se_Md_isOne rfl (by decide) rfl (by decide) d_Md_on_14 hT (c_Md_isOne0 hM (hF 0 (by decide))) rfl (Nat.le_of_ble_eq_true rfl) (by omega) (by omega) (by omega) (fun v S' I' J' hq => ?_)
    obtain ⟨rfl, rfl, rfl, rfl⟩ := hq
    refine r_if_ne (pc := 17) (tgt := 22) d_Md_on_17 (by decide) (fun c2 => ?_) (fun c2 => ?_)
    · exact absurd rfl c2
    · refine r_iconst (pc := 20) (v := (-1)) d_Md_on_20 rfl ?_
      exact r_iret d_Md_on_21 rfl (by omega) (by omega) (by rw [a_Md_on, if_pos c1])
def a_Md_judge (tp : Int32) (i : Int32) : Int32 := (if (qwithin tp 0 5) = 0 then (-1) else (-5))
theorem k_Md_judge {tp i : Int32} (hM : isMd S) (hF : ∀ j, j ≠ 18 → I 114 j = 0) (hh : I 114 18 = -1) (hTs : ∀ t, t < 6 → I 145 t = -1) (hTz : ∀ t, t < 6 → I 146 t = 0) : qMet E y_Md_judge b_Md_judge 4 (some .int) 1 0 0 [.ref (qb E + 114), .int tp, .int i] S I J (fun r S' I' J' => r = some (.int (a_Md_judge tp i))) := by
  refine qMet.of (L := [some (.ref (qb E + 114)), some (.int tp), some (.int i), none]) (by decide +kernel) (Nat.le_of_ble_eq_true rfl) rfl ?_
  refine ldi_n_4_1 (pc := 0) d_Md_judge_0 ?_
  refine r_iconst (pc := 1) (v := 0) d_Md_judge_1 rfl ?_
  refine r_iconst (pc := 2) (v := 5) d_Md_judge_2 rfl ?_
  refine r_callS (pc := 3) (As := [.int tp, .int 0, .int 5]) k_Md_120 sw_Md_within rfl (by decide) d_Md_judge_3 (c_Md_within _ _ _) rfl (Nat.le_of_ble_eq_true rfl) (by omega) (by omega) (by omega) (fun v' S' I' J' hq => ?_)
  obtain ⟨rfl, rfl, rfl, rfl⟩ := hq
  refine r_if_ne (pc := 6) (tgt := 11) d_Md_judge_6 (by decide) (fun c1 => ?_) (fun c1 => ?_)
  · obtain ⟨t, ht, rfl⟩ := qtape_y c1
    refine lda_n_4_0 (pc := 11) d_Md_judge_11 ?_
    refine g_Md_103 (pc := 12) rfl d_Md_judge_12 (hM.1) (hM.r 30 rfl) ?_
    refine ldi_n_4_1 (pc := 15) d_Md_judge_15 ?_
    refine r_iald (pc := 16) d_Md_judge_16 (hM.a 30 rfl) (vp_in_nI ht (by omega)) ?_
    refine r_top (v := (-1)) (by rw [qcl (by omega)]; exact hTs t ht) ?_
    refine r_iconst (pc := 17) (v := (-1)) d_Md_judge_17 rfl ?_
    refine r_icmp_eq (pc := 18) (tgt := 34) d_Md_judge_18 (by decide) (fun _ => ?_) (fun c => absurd (by decide) c)
    refine r_iconst (pc := 34) (v := 0) d_Md_judge_34 rfl ?_
    refine sti_n_4_3 (pc := 35) d_Md_judge_35 rfl ?_
    refine ldi_n_4_3 (pc := 36) d_Md_judge_36 ?_
    refine lda_n_4_0 (pc := 37) d_Md_judge_37 ?_
    refine g_Md_117 (pc := 38) rfl d_Md_judge_38 (hM.1) ?_
    refine r_top (v := 0) (by exact hF 0 (by decide)) ?_
    refine r_icmp_ge (pc := 41) (tgt := 111) d_Md_judge_41 (by decide) (fun _ => ?_) (fun c => absurd (by decide) c)
    refine r_bipush (pc := 111) (v := (-5)) d_Md_judge_111 rfl ?_
    exact r_iret d_Md_judge_113 rfl (by omega) (by omega) (by rw [a_Md_judge, if_neg c1])
  · refine r_iconst (pc := 9) (v := (-1)) d_Md_judge_9 rfl ?_
    exact r_iret d_Md_judge_10 rfl (by omega) (by omega) (by rw [a_Md_judge, if_pos c1])
def a_Md_item (tp : Int32) (i : Int32) (z : Int64) : Int32 := (if (qwithin tp 0 5) = 0 then (-1) else (-11))
theorem k_Md_item {tp i : Int32} {z : Int64} (hM : isMd S) (hF : ∀ j, j ≠ 18 → I 114 j = 0) (hh : I 114 18 = -1) (hTs : ∀ t, t < 6 → I 145 t = -1) (hTz : ∀ t, t < 6 → I 146 t = 0) : qMet E y_Md_item b_Md_item 5 (some .int) 2 0 0 [.ref (qb E + 114), .int tp, .int i, .long z] S I J (fun r S' I' J' => r = some (.int (a_Md_item tp i z))) := by
  refine qMet.of (L := [some (.ref (qb E + 114)), some (.int tp), some (.int i), some (.long z), none]) (by decide +kernel) (Nat.le_of_ble_eq_true rfl) rfl ?_
  refine ldi_n_5_1 (pc := 0) d_Md_item_0 ?_
  refine r_callS (pc := 1) (As := [.int tp]) k_Md_361 sw_Md_isTape rfl (by decide) d_Md_item_1 (c_Md_isTape _) rfl (Nat.le_of_ble_eq_true rfl) (by omega) (by omega) (by omega) (fun v' S' I' J' hq => ?_)
  obtain ⟨rfl, rfl, rfl, rfl⟩ := hq
  refine r_if_ne (pc := 4) (tgt := 9) d_Md_item_4 (by decide) (fun c1 => ?_) (fun c1 => ?_)
  · obtain ⟨t, ht, rfl⟩ := qtape_y c1
    refine lda_n_5_0 (pc := 9) d_Md_item_9 ?_
    refine g_Md_103 (pc := 10) rfl d_Md_item_10 (hM.1) (hM.r 30 rfl) ?_
    refine ldi_n_5_1 (pc := 13) d_Md_item_13 ?_
    refine r_iald (pc := 14) d_Md_item_14 (hM.a 30 rfl) (vp_in_nI ht (by omega)) ?_
    refine r_top (v := (-1)) (by rw [qcl (by omega)]; exact hTs t ht) ?_
    refine r_if_ge (pc := 15) (tgt := 21) d_Md_item_15 (by decide) (fun c => absurd c (by decide)) (fun _ => ?_)
    refine r_bipush (pc := 18) (v := (-11)) d_Md_item_18 rfl ?_
    exact r_iret d_Md_item_20 rfl (by omega) (by omega) (by rw [a_Md_item, if_neg c1])
  · refine r_iconst (pc := 7) (v := (-1)) d_Md_item_7 rfl ?_
    exact r_iret d_Md_item_8 rfl (by omega) (by omega) (by rw [a_Md_item, if_pos c1])
def a_Md_read (tp : Int32) (i : Int32) : Int64 := (if (qwithin tp 0 5) = 0 then (-9223372036854775808) else (-9223372036854775808))
theorem k_Md_read {tp i : Int32} (hM : isMd S) (hF : ∀ j, j ≠ 18 → I 114 j = 0) (hh : I 114 18 = -1) (hTs : ∀ t, t < 6 → I 145 t = -1) (hTz : ∀ t, t < 6 → I 146 t = 0) : qMet E y_Md_read b_Md_read 3 (some .long) 2 0 0 [.ref (qb E + 114), .int tp, .int i] S I J (fun r S' I' J' => r = some (.long (a_Md_read tp i))) := by
  refine qMet.of (L := [some (.ref (qb E + 114)), some (.int tp), some (.int i)]) (by decide +kernel) (Nat.le_of_ble_eq_true rfl) rfl ?_
  refine ldi_n_3_1 (pc := 0) d_Md_read_0 ?_
  refine r_callS (pc := 1) (As := [.int tp]) k_Md_361 sw_Md_isTape rfl (by decide) d_Md_read_1 (c_Md_isTape _) rfl (Nat.le_of_ble_eq_true rfl) (by omega) (by omega) (by omega) (fun v' S' I' J' hq => ?_)
  obtain ⟨rfl, rfl, rfl, rfl⟩ := hq
  refine r_if_eq (pc := 4) (tgt := 46) d_Md_read_4 (by decide) (fun c1 => ?_) (fun c1 => ?_)
  · refine r_ldc2 (pc := 46) cl_Md_327 d_Md_read_46 ?_
    exact r_lret d_Md_read_49 rfl (by omega) (by omega) (by rw [a_Md_read, if_pos c1])
  · obtain ⟨t, ht, rfl⟩ := qtape_y c1
    refine lda_n_3_0 (pc := 7) d_Md_read_7 ?_
    refine g_Md_103 (pc := 8) rfl d_Md_read_8 (hM.1) (hM.r 30 rfl) ?_
    refine ldi_n_3_1 (pc := 11) d_Md_read_11 ?_
    refine r_iald (pc := 12) d_Md_read_12 (hM.a 30 rfl) (vp_in_nI ht (by omega)) ?_
    refine r_top (v := (-1)) (by rw [qcl (by omega)]; exact hTs t ht) ?_
    refine r_if_lt (pc := 13) (tgt := 46) d_Md_read_13 (by decide) (fun _ => ?_) (fun c => absurd (by decide) c)
    refine r_ldc2 (pc := 46) cl_Md_327 d_Md_read_46 ?_
    exact r_lret d_Md_read_49 rfl (by omega) (by omega) (by rw [a_Md_read, if_neg c1])
def a_Md_shift (tp : Int32) (i : Int32) (tq : Int32) (j : Int32) (n : Int32) : Int32 := (if (qwithin tp 0 5) = 0 then (-1) else (if (qwithin tq 0 5) = 0 then (-1) else (-11)))
theorem k_Md_shift {tp i tq j n : Int32} (hM : isMd S) (hF : ∀ j, j ≠ 18 → I 114 j = 0) (hh : I 114 18 = -1) (hTs : ∀ t, t < 6 → I 145 t = -1) (hTz : ∀ t, t < 6 → I 146 t = 0) : qMet E y_Md_shift b_Md_shift 7 (some .int) 2 0 0 [.ref (qb E + 114), .int tp, .int i, .int tq, .int j, .int n] S I J (fun r S' I' J' => r = some (.int (a_Md_shift tp i tq j n))) := by
  refine qMet.of (L := [some (.ref (qb E + 114)), some (.int tp), some (.int i), some (.int tq), some (.int j), some (.int n), none]) (by decide +kernel) (Nat.le_of_ble_eq_true rfl) rfl ?_
  refine ldi_n_7_1 (pc := 0) d_Md_shift_0 ?_
  refine r_callS (pc := 1) (As := [.int tp]) k_Md_361 sw_Md_isTape rfl (by decide) d_Md_shift_1 (c_Md_isTape _) rfl (Nat.le_of_ble_eq_true rfl) (by omega) (by omega) (by omega) (fun v' S' I' J' hq => ?_)
  obtain ⟨rfl, rfl, rfl, rfl⟩ := hq
  refine r_if_eq (pc := 4) (tgt := 14) d_Md_shift_4 (by decide) (fun c1 => ?_) (fun c1 => ?_)
  · refine r_iconst (pc := 14) (v := (-1)) d_Md_shift_14 rfl ?_
    exact r_iret d_Md_shift_15 rfl (by omega) (by omega) (by rw [a_Md_shift, if_pos c1])
  · refine ldi_n_7_3 (pc := 7) d_Md_shift_7 ?_
    refine r_callS (pc := 8) (As := [.int tq]) k_Md_361 sw_Md_isTape rfl (by decide) d_Md_shift_8 (c_Md_isTape _) rfl (Nat.le_of_ble_eq_true rfl) (by omega) (by omega) (by omega) (fun v' S' I' J' hq => ?_)
    obtain ⟨rfl, rfl, rfl, rfl⟩ := hq
    refine r_if_ne (pc := 11) (tgt := 16) d_Md_shift_11 (by decide) (fun c2 => ?_) (fun c2 => ?_)
    · obtain ⟨t, ht, rfl⟩ := qtape_y c1
      obtain ⟨u, hu, rfl⟩ := qtape_y c2
      refine lda_n_7_0 (pc := 16) d_Md_shift_16 ?_
      refine g_Md_103 (pc := 17) rfl d_Md_shift_17 (hM.1) (hM.r 30 rfl) ?_
      refine ldi_n_7_1 (pc := 20) d_Md_shift_20 ?_
      refine r_iald (pc := 21) d_Md_shift_21 (hM.a 30 rfl) (vp_in_nI ht (by omega)) ?_
      refine r_top (v := (-1)) (by rw [qcl (by omega)]; exact hTs t ht) ?_
      refine r_if_lt (pc := 22) (tgt := 34) d_Md_shift_22 (by decide) (fun _ => ?_) (fun c => absurd (by decide) c)
      refine r_bipush (pc := 34) (v := (-11)) d_Md_shift_34 rfl ?_
      exact r_iret d_Md_shift_36 rfl (by omega) (by omega) (by rw [a_Md_shift, if_neg c1, if_neg c2])
    · refine r_iconst (pc := 14) (v := (-1)) d_Md_shift_14 rfl ?_
      exact r_iret d_Md_shift_15 rfl (by omega) (by omega) (by rw [a_Md_shift, if_neg c1, if_pos c2])
theorem vp_tp {t k : Nat} (ht : t < 6) (hk : k < 60) : vp_in (60 * nI t + nI k) 360 := by
  rw [show (60 : Int32) = nI 60 from rfl, pk_mul, nI_add]
  exact vp_in_nI (by omega) (by omega)
def a_Md_tape (tp : Int32) (s : Int32) (n : Int32) : Int32 := (if (qwithin tp 0 5) = 0 then (-1) else (if (qwithin s (-1) 4) = 0 then (-2) else (if s < 0 then (if s < 0 then (if 0 ≤ s then 1 else 1) else (if 0 ≤ n then (if 0 ≤ s then 1 else 1) else (-14))) else (if n ≤ 60 then (if s < 0 then (if 0 ≤ s then 1 else 1) else (if 0 ≤ n then (if 0 ≤ s then 1 else 1) else (-14))) else (-2)))))
theorem k_Md_tape {tp s n : Int32} (hM : isMd S) (hF : ∀ j, j ≠ 18 → I 114 j = 0) (hh : I 114 18 = -1) (hTs : ∀ t, t < 6 → I 145 t = -1) (hTz : ∀ t, t < 6 → I 146 t = 0) : qMet E y_Md_tape b_Md_tape 5 (some .int) 2 0 0 [.ref (qb E + 114), .int tp, .int s, .int n] S I J (fun r S' I' J' => r = some (.int (a_Md_tape tp s n))) := by
  refine qMet.of (L := [some (.ref (qb E + 114)), some (.int tp), some (.int s), some (.int n), none]) (by decide +kernel) (Nat.le_of_ble_eq_true rfl) rfl ?_
  refine ldi_n_5_1 (pc := 0) d_Md_tape_0 ?_
  refine r_callS (pc := 1) (As := [.int tp]) k_Md_361 sw_Md_isTape rfl (by decide) d_Md_tape_1 (c_Md_isTape _) rfl (Nat.le_of_ble_eq_true rfl) (by omega) (by omega) (by omega) (fun v' S' I' J' hq => ?_)
  obtain ⟨rfl, rfl, rfl, rfl⟩ := hq
  refine r_if_ne (pc := 4) (tgt := 9) d_Md_tape_4 (by decide) (fun c1 => ?_) (fun c1 => ?_)
  · obtain ⟨t, ht, rfl⟩ := qtape_y c1
    refine ldi_n_5_2 (pc := 9) d_Md_tape_9 ?_
    refine r_iconst (pc := 10) (v := (-1)) d_Md_tape_10 rfl ?_
    refine r_iconst (pc := 11) (v := 4) d_Md_tape_11 rfl ?_
    refine r_callS (pc := 12) (As := [.int s, .int (-1), .int 4]) k_Md_120 sw_Md_within rfl (by decide) d_Md_tape_12 (c_Md_within _ _ _) rfl (Nat.le_of_ble_eq_true rfl) (by omega) (by omega) (by omega) (fun v' S' I' J' hq => ?_)
    obtain ⟨rfl, rfl, rfl, rfl⟩ := hq
    refine r_if_eq (pc := 15) (tgt := 28) d_Md_tape_15 (by decide) (fun c2 => ?_) (fun c2 => ?_)
    · refine r_bipush (pc := 28) (v := (-2)) d_Md_tape_28 rfl ?_
      exact r_iret d_Md_tape_30 rfl (by omega) (by omega) (by rw [a_Md_tape, if_neg c1, if_pos c2])
    · refine ldi_n_5_2 (pc := 18) d_Md_tape_18 ?_
      refine r_if_lt (pc := 19) (tgt := 31) d_Md_tape_19 (by decide) (fun c3 => ?_) (fun c3 => ?_)
      · refine ldi_n_5_2 (pc := 31) d_Md_tape_31 ?_
        refine r_if_lt (pc := 32) (tgt := 42) d_Md_tape_32 (by decide) (fun c4 => ?_) (fun c4 => ?_)
        · refine lda_n_5_0 (pc := 42) d_Md_tape_42 ?_
          refine g_Md_103 (pc := 43) rfl d_Md_tape_43 (hM.1) (hM.r 30 rfl) ?_
          refine ldi_n_5_1 (pc := 46) d_Md_tape_46 ?_
          refine ldi_n_5_2 (pc := 47) d_Md_tape_47 ?_
          refine r_iast (pc := 48) d_Md_tape_48 (hM.a 30 rfl) (vp_in_nI ht (by omega)) ?_
          refine r_nmI (fun I6 hI5 => ?_)
          refine lda_n_5_0 (pc := 49) d_Md_tape_49 ?_
          refine g_Md_106 (pc := 50) rfl d_Md_tape_50 (hM.1) (hM.r 31 rfl) ?_
          refine ldi_n_5_1 (pc := 53) d_Md_tape_53 ?_
          refine ldi_n_5_2 (pc := 54) d_Md_tape_54 ?_
          refine r_if_ge (pc := 55) (tgt := 62) d_Md_tape_55 (by decide) (fun c7 => ?_) (fun c7 => ?_)
          · refine ldi_n_5_3 (pc := 62) d_Md_tape_62 ?_
            refine r_iast (pc := 63) d_Md_tape_63 (hM.a 31 rfl) (vp_in_nI ht (by omega)) ?_
            refine r_nmI (fun I9 hI8 => ?_)
            refine r_iconst (pc := 64) (v := 0) d_Md_tape_64 rfl ?_
            refine sti_5_4 (pc := 65) d_Md_tape_65 rfl ?_
            refine r_nmI (fun Iz _ => ?_)
            rw [q0]
            have key : ∀ k, k ≤ 60 → ∀ J2, qW E y_Md_tape b_Md_tape (some .int) 2 0 0 (fun r S' I' J' => r = some (.int (a_Md_tape (nI t) s n))) 0 0 67 [some (.ref (qb E + 114)), some (.int (nI t)), some (.int s), some (.int n), some (.int (nI k))] [] S Iz J2 := by
              refine qfor 60 ?_ ?_
              · intro J2
                refine ldi_5_4 (pc := 67) d_Md_tape_67 ?_
                refine r_bipush (pc := 69) (v := 60) d_Md_tape_69 rfl ?_
                refine r_icmp_ge (pc := 71) (tgt := 93) d_Md_tape_71 (by decide) (fun c => ?_) (fun c => ?_)
                · refine r_iconst (pc := 93) (v := 1) d_Md_tape_93 rfl ?_
                  exact r_iret d_Md_tape_94 rfl (by omega) (by omega) (by rw [a_Md_tape, if_neg c1, if_neg c2, if_pos c3, if_pos c4, if_pos c7])
                · exact absurd (show nI 60 ≤ nI 60 from by decide) c
              · intro k hk ih J2
                refine ldi_5_4 (pc := 67) d_Md_tape_67 ?_
                refine r_bipush (pc := 69) (v := 60) d_Md_tape_69 rfl ?_
                refine r_icmp_ge (pc := 71) (tgt := 93) d_Md_tape_71 (by decide) (fun c => ?_) (fun c => ?_)
                · exact absurd (show nI 60 ≤ nI k from c) (nI_ge hk (by omega))
                · refine lda_n_5_0 (pc := 74) d_Md_tape_74 ?_
                  refine g_Md_109 (pc := 75) rfl d_Md_tape_75 (hM.1) (hM.r 32 rfl) ?_
                  refine r_bipush (pc := 78) (v := 60) d_Md_tape_78 rfl ?_
                  refine ldi_n_5_1 (pc := 80) d_Md_tape_80 ?_
                  refine r_imul (pc := 81) d_Md_tape_81 ?_
                  refine ldi_5_4 (pc := 82) d_Md_tape_82 ?_
                  refine r_iadd (pc := 84) d_Md_tape_84 ?_
                  refine r_lconst (pc := 85) (v := 0) d_Md_tape_85 rfl ?_
                  refine r_last (pc := 86) d_Md_tape_86 (hM.a 32 rfl) (vp_tp ht hk) ?_
                  refine inc_5_4 (pc := 87) (w := 1) d_Md_tape_87 rfl rfl ?_
                  refine r_goto (pc := 90) (tgt := 67) d_Md_tape_90 (by decide) ?_
                  rw [q1]
                  exact ih _
            exact key 0 (by omega) J
          · refine r_iconst (pc := 58) (v := 0) d_Md_tape_58 rfl ?_
            refine r_goto (pc := 59) (tgt := 63) d_Md_tape_59 (by decide) ?_
            refine r_iast (pc := 63) d_Md_tape_63 (hM.a 31 rfl) (vp_in_nI ht (by omega)) ?_
            refine r_nmI (fun I11 hI10 => ?_)
            refine r_iconst (pc := 64) (v := 0) d_Md_tape_64 rfl ?_
            refine sti_5_4 (pc := 65) d_Md_tape_65 rfl ?_
            refine r_nmI (fun Iz _ => ?_)
            rw [q0]
            have key : ∀ k, k ≤ 60 → ∀ J2, qW E y_Md_tape b_Md_tape (some .int) 2 0 0 (fun r S' I' J' => r = some (.int (a_Md_tape (nI t) s n))) 0 0 67 [some (.ref (qb E + 114)), some (.int (nI t)), some (.int s), some (.int n), some (.int (nI k))] [] S Iz J2 := by
              refine qfor 60 ?_ ?_
              · intro J2
                refine ldi_5_4 (pc := 67) d_Md_tape_67 ?_
                refine r_bipush (pc := 69) (v := 60) d_Md_tape_69 rfl ?_
                refine r_icmp_ge (pc := 71) (tgt := 93) d_Md_tape_71 (by decide) (fun c => ?_) (fun c => ?_)
                · refine r_iconst (pc := 93) (v := 1) d_Md_tape_93 rfl ?_
                  exact r_iret d_Md_tape_94 rfl (by omega) (by omega) (by rw [a_Md_tape, if_neg c1, if_neg c2, if_pos c3, if_pos c4, if_neg c7])
                · exact absurd (show nI 60 ≤ nI 60 from by decide) c
              · intro k hk ih J2
                refine ldi_5_4 (pc := 67) d_Md_tape_67 ?_
                refine r_bipush (pc := 69) (v := 60) d_Md_tape_69 rfl ?_
                refine r_icmp_ge (pc := 71) (tgt := 93) d_Md_tape_71 (by decide) (fun c => ?_) (fun c => ?_)
                · exact absurd (show nI 60 ≤ nI k from c) (nI_ge hk (by omega))
                · refine lda_n_5_0 (pc := 74) d_Md_tape_74 ?_
                  refine g_Md_109 (pc := 75) rfl d_Md_tape_75 (hM.1) (hM.r 32 rfl) ?_
                  refine r_bipush (pc := 78) (v := 60) d_Md_tape_78 rfl ?_
                  refine ldi_n_5_1 (pc := 80) d_Md_tape_80 ?_
                  refine r_imul (pc := 81) d_Md_tape_81 ?_
                  refine ldi_5_4 (pc := 82) d_Md_tape_82 ?_
                  refine r_iadd (pc := 84) d_Md_tape_84 ?_
                  refine r_lconst (pc := 85) (v := 0) d_Md_tape_85 rfl ?_
                  refine r_last (pc := 86) d_Md_tape_86 (hM.a 32 rfl) (vp_tp ht hk) ?_
                  refine inc_5_4 (pc := 87) (w := 1) d_Md_tape_87 rfl rfl ?_
                  refine r_goto (pc := 90) (tgt := 67) d_Md_tape_90 (by decide) ?_
                  rw [q1]
                  exact ih _
            exact key 0 (by omega) J
        · refine ldi_n_5_3 (pc := 35) d_Md_tape_35 ?_
          refine r_if_ge (pc := 36) (tgt := 42) d_Md_tape_36 (by decide) (fun c12 => ?_) (fun c12 => ?_)
          · refine lda_n_5_0 (pc := 42) d_Md_tape_42 ?_
            refine g_Md_103 (pc := 43) rfl d_Md_tape_43 (hM.1) (hM.r 30 rfl) ?_
            refine ldi_n_5_1 (pc := 46) d_Md_tape_46 ?_
            refine ldi_n_5_2 (pc := 47) d_Md_tape_47 ?_
            refine r_iast (pc := 48) d_Md_tape_48 (hM.a 30 rfl) (vp_in_nI ht (by omega)) ?_
            refine r_nmI (fun I14 hI13 => ?_)
            refine lda_n_5_0 (pc := 49) d_Md_tape_49 ?_
            refine g_Md_106 (pc := 50) rfl d_Md_tape_50 (hM.1) (hM.r 31 rfl) ?_
            refine ldi_n_5_1 (pc := 53) d_Md_tape_53 ?_
            refine ldi_n_5_2 (pc := 54) d_Md_tape_54 ?_
            refine r_if_ge (pc := 55) (tgt := 62) d_Md_tape_55 (by decide) (fun c15 => ?_) (fun c15 => ?_)
            · refine ldi_n_5_3 (pc := 62) d_Md_tape_62 ?_
              refine r_iast (pc := 63) d_Md_tape_63 (hM.a 31 rfl) (vp_in_nI ht (by omega)) ?_
              refine r_nmI (fun I17 hI16 => ?_)
              refine r_iconst (pc := 64) (v := 0) d_Md_tape_64 rfl ?_
              refine sti_5_4 (pc := 65) d_Md_tape_65 rfl ?_
              refine r_nmI (fun Iz _ => ?_)
              rw [q0]
              have key : ∀ k, k ≤ 60 → ∀ J2, qW E y_Md_tape b_Md_tape (some .int) 2 0 0 (fun r S' I' J' => r = some (.int (a_Md_tape (nI t) s n))) 0 0 67 [some (.ref (qb E + 114)), some (.int (nI t)), some (.int s), some (.int n), some (.int (nI k))] [] S Iz J2 := by
                refine qfor 60 ?_ ?_
                · intro J2
                  refine ldi_5_4 (pc := 67) d_Md_tape_67 ?_
                  refine r_bipush (pc := 69) (v := 60) d_Md_tape_69 rfl ?_
                  refine r_icmp_ge (pc := 71) (tgt := 93) d_Md_tape_71 (by decide) (fun c => ?_) (fun c => ?_)
                  · refine r_iconst (pc := 93) (v := 1) d_Md_tape_93 rfl ?_
                    exact r_iret d_Md_tape_94 rfl (by omega) (by omega) (by rw [a_Md_tape, if_neg c1, if_neg c2, if_pos c3, if_neg c4, if_pos c12, if_pos c15])
                  · exact absurd (show nI 60 ≤ nI 60 from by decide) c
                · intro k hk ih J2
                  refine ldi_5_4 (pc := 67) d_Md_tape_67 ?_
                  refine r_bipush (pc := 69) (v := 60) d_Md_tape_69 rfl ?_
                  refine r_icmp_ge (pc := 71) (tgt := 93) d_Md_tape_71 (by decide) (fun c => ?_) (fun c => ?_)
                  · exact absurd (show nI 60 ≤ nI k from c) (nI_ge hk (by omega))
                  · refine lda_n_5_0 (pc := 74) d_Md_tape_74 ?_
                    refine g_Md_109 (pc := 75) rfl d_Md_tape_75 (hM.1) (hM.r 32 rfl) ?_
                    refine r_bipush (pc := 78) (v := 60) d_Md_tape_78 rfl ?_
                    refine ldi_n_5_1 (pc := 80) d_Md_tape_80 ?_
                    refine r_imul (pc := 81) d_Md_tape_81 ?_
                    refine ldi_5_4 (pc := 82) d_Md_tape_82 ?_
                    refine r_iadd (pc := 84) d_Md_tape_84 ?_
                    refine r_lconst (pc := 85) (v := 0) d_Md_tape_85 rfl ?_
                    refine r_last (pc := 86) d_Md_tape_86 (hM.a 32 rfl) (vp_tp ht hk) ?_
                    refine inc_5_4 (pc := 87) (w := 1) d_Md_tape_87 rfl rfl ?_
                    refine r_goto (pc := 90) (tgt := 67) d_Md_tape_90 (by decide) ?_
                    rw [q1]
                    exact ih _
              exact key 0 (by omega) J
            · refine r_iconst (pc := 58) (v := 0) d_Md_tape_58 rfl ?_
              refine r_goto (pc := 59) (tgt := 63) d_Md_tape_59 (by decide) ?_
              refine r_iast (pc := 63) d_Md_tape_63 (hM.a 31 rfl) (vp_in_nI ht (by omega)) ?_
              refine r_nmI (fun I19 hI18 => ?_)
              refine r_iconst (pc := 64) (v := 0) d_Md_tape_64 rfl ?_
              refine sti_5_4 (pc := 65) d_Md_tape_65 rfl ?_
              refine r_nmI (fun Iz _ => ?_)
              rw [q0]
              have key : ∀ k, k ≤ 60 → ∀ J2, qW E y_Md_tape b_Md_tape (some .int) 2 0 0 (fun r S' I' J' => r = some (.int (a_Md_tape (nI t) s n))) 0 0 67 [some (.ref (qb E + 114)), some (.int (nI t)), some (.int s), some (.int n), some (.int (nI k))] [] S Iz J2 := by
                refine qfor 60 ?_ ?_
                · intro J2
                  refine ldi_5_4 (pc := 67) d_Md_tape_67 ?_
                  refine r_bipush (pc := 69) (v := 60) d_Md_tape_69 rfl ?_
                  refine r_icmp_ge (pc := 71) (tgt := 93) d_Md_tape_71 (by decide) (fun c => ?_) (fun c => ?_)
                  · refine r_iconst (pc := 93) (v := 1) d_Md_tape_93 rfl ?_
                    exact r_iret d_Md_tape_94 rfl (by omega) (by omega) (by rw [a_Md_tape, if_neg c1, if_neg c2, if_pos c3, if_neg c4, if_pos c12, if_neg c15])
                  · exact absurd (show nI 60 ≤ nI 60 from by decide) c
                · intro k hk ih J2
                  refine ldi_5_4 (pc := 67) d_Md_tape_67 ?_
                  refine r_bipush (pc := 69) (v := 60) d_Md_tape_69 rfl ?_
                  refine r_icmp_ge (pc := 71) (tgt := 93) d_Md_tape_71 (by decide) (fun c => ?_) (fun c => ?_)
                  · exact absurd (show nI 60 ≤ nI k from c) (nI_ge hk (by omega))
                  · refine lda_n_5_0 (pc := 74) d_Md_tape_74 ?_
                    refine g_Md_109 (pc := 75) rfl d_Md_tape_75 (hM.1) (hM.r 32 rfl) ?_
                    refine r_bipush (pc := 78) (v := 60) d_Md_tape_78 rfl ?_
                    refine ldi_n_5_1 (pc := 80) d_Md_tape_80 ?_
                    refine r_imul (pc := 81) d_Md_tape_81 ?_
                    refine ldi_5_4 (pc := 82) d_Md_tape_82 ?_
                    refine r_iadd (pc := 84) d_Md_tape_84 ?_
                    refine r_lconst (pc := 85) (v := 0) d_Md_tape_85 rfl ?_
                    refine r_last (pc := 86) d_Md_tape_86 (hM.a 32 rfl) (vp_tp ht hk) ?_
                    refine inc_5_4 (pc := 87) (w := 1) d_Md_tape_87 rfl rfl ?_
                    refine r_goto (pc := 90) (tgt := 67) d_Md_tape_90 (by decide) ?_
                    rw [q1]
                    exact ih _
              exact key 0 (by omega) J
          · refine r_bipush (pc := 39) (v := (-14)) d_Md_tape_39 rfl ?_
            exact r_iret d_Md_tape_41 rfl (by omega) (by omega) (by rw [a_Md_tape, if_neg c1, if_neg c2, if_pos c3, if_neg c4, if_neg c12])
      · refine ldi_n_5_3 (pc := 22) d_Md_tape_22 ?_
        refine r_bipush (pc := 23) (v := 60) d_Md_tape_23 rfl ?_
        refine r_icmp_le (pc := 25) (tgt := 31) d_Md_tape_25 (by decide) (fun c20 => ?_) (fun c20 => ?_)
        · refine ldi_n_5_2 (pc := 31) d_Md_tape_31 ?_
          refine r_if_lt (pc := 32) (tgt := 42) d_Md_tape_32 (by decide) (fun c21 => ?_) (fun c21 => ?_)
          · refine lda_n_5_0 (pc := 42) d_Md_tape_42 ?_
            refine g_Md_103 (pc := 43) rfl d_Md_tape_43 (hM.1) (hM.r 30 rfl) ?_
            refine ldi_n_5_1 (pc := 46) d_Md_tape_46 ?_
            refine ldi_n_5_2 (pc := 47) d_Md_tape_47 ?_
            refine r_iast (pc := 48) d_Md_tape_48 (hM.a 30 rfl) (vp_in_nI ht (by omega)) ?_
            refine r_nmI (fun I23 hI22 => ?_)
            refine lda_n_5_0 (pc := 49) d_Md_tape_49 ?_
            refine g_Md_106 (pc := 50) rfl d_Md_tape_50 (hM.1) (hM.r 31 rfl) ?_
            refine ldi_n_5_1 (pc := 53) d_Md_tape_53 ?_
            refine ldi_n_5_2 (pc := 54) d_Md_tape_54 ?_
            refine r_if_ge (pc := 55) (tgt := 62) d_Md_tape_55 (by decide) (fun c24 => ?_) (fun c24 => ?_)
            · refine ldi_n_5_3 (pc := 62) d_Md_tape_62 ?_
              refine r_iast (pc := 63) d_Md_tape_63 (hM.a 31 rfl) (vp_in_nI ht (by omega)) ?_
              refine r_nmI (fun I26 hI25 => ?_)
              refine r_iconst (pc := 64) (v := 0) d_Md_tape_64 rfl ?_
              refine sti_5_4 (pc := 65) d_Md_tape_65 rfl ?_
              refine r_nmI (fun Iz _ => ?_)
              rw [q0]
              have key : ∀ k, k ≤ 60 → ∀ J2, qW E y_Md_tape b_Md_tape (some .int) 2 0 0 (fun r S' I' J' => r = some (.int (a_Md_tape (nI t) s n))) 0 0 67 [some (.ref (qb E + 114)), some (.int (nI t)), some (.int s), some (.int n), some (.int (nI k))] [] S Iz J2 := by
                refine qfor 60 ?_ ?_
                · intro J2
                  refine ldi_5_4 (pc := 67) d_Md_tape_67 ?_
                  refine r_bipush (pc := 69) (v := 60) d_Md_tape_69 rfl ?_
                  refine r_icmp_ge (pc := 71) (tgt := 93) d_Md_tape_71 (by decide) (fun c => ?_) (fun c => ?_)
                  · refine r_iconst (pc := 93) (v := 1) d_Md_tape_93 rfl ?_
                    exact r_iret d_Md_tape_94 rfl (by omega) (by omega) (by rw [a_Md_tape, if_neg c1, if_neg c2, if_neg c3, if_pos c20, if_pos c21, if_pos c24])
                  · exact absurd (show nI 60 ≤ nI 60 from by decide) c
                · intro k hk ih J2
                  refine ldi_5_4 (pc := 67) d_Md_tape_67 ?_
                  refine r_bipush (pc := 69) (v := 60) d_Md_tape_69 rfl ?_
                  refine r_icmp_ge (pc := 71) (tgt := 93) d_Md_tape_71 (by decide) (fun c => ?_) (fun c => ?_)
                  · exact absurd (show nI 60 ≤ nI k from c) (nI_ge hk (by omega))
                  · refine lda_n_5_0 (pc := 74) d_Md_tape_74 ?_
                    refine g_Md_109 (pc := 75) rfl d_Md_tape_75 (hM.1) (hM.r 32 rfl) ?_
                    refine r_bipush (pc := 78) (v := 60) d_Md_tape_78 rfl ?_
                    refine ldi_n_5_1 (pc := 80) d_Md_tape_80 ?_
                    refine r_imul (pc := 81) d_Md_tape_81 ?_
                    refine ldi_5_4 (pc := 82) d_Md_tape_82 ?_
                    refine r_iadd (pc := 84) d_Md_tape_84 ?_
                    refine r_lconst (pc := 85) (v := 0) d_Md_tape_85 rfl ?_
                    refine r_last (pc := 86) d_Md_tape_86 (hM.a 32 rfl) (vp_tp ht hk) ?_
                    refine inc_5_4 (pc := 87) (w := 1) d_Md_tape_87 rfl rfl ?_
                    refine r_goto (pc := 90) (tgt := 67) d_Md_tape_90 (by decide) ?_
                    rw [q1]
                    exact ih _
              exact key 0 (by omega) J
            · refine r_iconst (pc := 58) (v := 0) d_Md_tape_58 rfl ?_
              refine r_goto (pc := 59) (tgt := 63) d_Md_tape_59 (by decide) ?_
              refine r_iast (pc := 63) d_Md_tape_63 (hM.a 31 rfl) (vp_in_nI ht (by omega)) ?_
              refine r_nmI (fun I28 hI27 => ?_)
              refine r_iconst (pc := 64) (v := 0) d_Md_tape_64 rfl ?_
              refine sti_5_4 (pc := 65) d_Md_tape_65 rfl ?_
              refine r_nmI (fun Iz _ => ?_)
              rw [q0]
              have key : ∀ k, k ≤ 60 → ∀ J2, qW E y_Md_tape b_Md_tape (some .int) 2 0 0 (fun r S' I' J' => r = some (.int (a_Md_tape (nI t) s n))) 0 0 67 [some (.ref (qb E + 114)), some (.int (nI t)), some (.int s), some (.int n), some (.int (nI k))] [] S Iz J2 := by
                refine qfor 60 ?_ ?_
                · intro J2
                  refine ldi_5_4 (pc := 67) d_Md_tape_67 ?_
                  refine r_bipush (pc := 69) (v := 60) d_Md_tape_69 rfl ?_
                  refine r_icmp_ge (pc := 71) (tgt := 93) d_Md_tape_71 (by decide) (fun c => ?_) (fun c => ?_)
                  · refine r_iconst (pc := 93) (v := 1) d_Md_tape_93 rfl ?_
                    exact r_iret d_Md_tape_94 rfl (by omega) (by omega) (by rw [a_Md_tape, if_neg c1, if_neg c2, if_neg c3, if_pos c20, if_pos c21, if_neg c24])
                  · exact absurd (show nI 60 ≤ nI 60 from by decide) c
                · intro k hk ih J2
                  refine ldi_5_4 (pc := 67) d_Md_tape_67 ?_
                  refine r_bipush (pc := 69) (v := 60) d_Md_tape_69 rfl ?_
                  refine r_icmp_ge (pc := 71) (tgt := 93) d_Md_tape_71 (by decide) (fun c => ?_) (fun c => ?_)
                  · exact absurd (show nI 60 ≤ nI k from c) (nI_ge hk (by omega))
                  · refine lda_n_5_0 (pc := 74) d_Md_tape_74 ?_
                    refine g_Md_109 (pc := 75) rfl d_Md_tape_75 (hM.1) (hM.r 32 rfl) ?_
                    refine r_bipush (pc := 78) (v := 60) d_Md_tape_78 rfl ?_
                    refine ldi_n_5_1 (pc := 80) d_Md_tape_80 ?_
                    refine r_imul (pc := 81) d_Md_tape_81 ?_
                    refine ldi_5_4 (pc := 82) d_Md_tape_82 ?_
                    refine r_iadd (pc := 84) d_Md_tape_84 ?_
                    refine r_lconst (pc := 85) (v := 0) d_Md_tape_85 rfl ?_
                    refine r_last (pc := 86) d_Md_tape_86 (hM.a 32 rfl) (vp_tp ht hk) ?_
                    refine inc_5_4 (pc := 87) (w := 1) d_Md_tape_87 rfl rfl ?_
                    refine r_goto (pc := 90) (tgt := 67) d_Md_tape_90 (by decide) ?_
                    rw [q1]
                    exact ih _
              exact key 0 (by omega) J
          · refine ldi_n_5_3 (pc := 35) d_Md_tape_35 ?_
            refine r_if_ge (pc := 36) (tgt := 42) d_Md_tape_36 (by decide) (fun c29 => ?_) (fun c29 => ?_)
            · refine lda_n_5_0 (pc := 42) d_Md_tape_42 ?_
              refine g_Md_103 (pc := 43) rfl d_Md_tape_43 (hM.1) (hM.r 30 rfl) ?_
              refine ldi_n_5_1 (pc := 46) d_Md_tape_46 ?_
              refine ldi_n_5_2 (pc := 47) d_Md_tape_47 ?_
              refine r_iast (pc := 48) d_Md_tape_48 (hM.a 30 rfl) (vp_in_nI ht (by omega)) ?_
              refine r_nmI (fun I31 hI30 => ?_)
              refine lda_n_5_0 (pc := 49) d_Md_tape_49 ?_
              refine g_Md_106 (pc := 50) rfl d_Md_tape_50 (hM.1) (hM.r 31 rfl) ?_
              refine ldi_n_5_1 (pc := 53) d_Md_tape_53 ?_
              refine ldi_n_5_2 (pc := 54) d_Md_tape_54 ?_
              refine r_if_ge (pc := 55) (tgt := 62) d_Md_tape_55 (by decide) (fun c32 => ?_) (fun c32 => ?_)
              · refine ldi_n_5_3 (pc := 62) d_Md_tape_62 ?_
                refine r_iast (pc := 63) d_Md_tape_63 (hM.a 31 rfl) (vp_in_nI ht (by omega)) ?_
                refine r_nmI (fun I34 hI33 => ?_)
                refine r_iconst (pc := 64) (v := 0) d_Md_tape_64 rfl ?_
                refine sti_5_4 (pc := 65) d_Md_tape_65 rfl ?_
                refine r_nmI (fun Iz _ => ?_)
                rw [q0]
                have key : ∀ k, k ≤ 60 → ∀ J2, qW E y_Md_tape b_Md_tape (some .int) 2 0 0 (fun r S' I' J' => r = some (.int (a_Md_tape (nI t) s n))) 0 0 67 [some (.ref (qb E + 114)), some (.int (nI t)), some (.int s), some (.int n), some (.int (nI k))] [] S Iz J2 := by
                  refine qfor 60 ?_ ?_
                  · intro J2
                    refine ldi_5_4 (pc := 67) d_Md_tape_67 ?_
                    refine r_bipush (pc := 69) (v := 60) d_Md_tape_69 rfl ?_
                    refine r_icmp_ge (pc := 71) (tgt := 93) d_Md_tape_71 (by decide) (fun c => ?_) (fun c => ?_)
                    · refine r_iconst (pc := 93) (v := 1) d_Md_tape_93 rfl ?_
                      exact r_iret d_Md_tape_94 rfl (by omega) (by omega) (by rw [a_Md_tape, if_neg c1, if_neg c2, if_neg c3, if_pos c20, if_neg c21, if_pos c29, if_pos c32])
                    · exact absurd (show nI 60 ≤ nI 60 from by decide) c
                  · intro k hk ih J2
                    refine ldi_5_4 (pc := 67) d_Md_tape_67 ?_
                    refine r_bipush (pc := 69) (v := 60) d_Md_tape_69 rfl ?_
                    refine r_icmp_ge (pc := 71) (tgt := 93) d_Md_tape_71 (by decide) (fun c => ?_) (fun c => ?_)
                    · exact absurd (show nI 60 ≤ nI k from c) (nI_ge hk (by omega))
                    · refine lda_n_5_0 (pc := 74) d_Md_tape_74 ?_
                      refine g_Md_109 (pc := 75) rfl d_Md_tape_75 (hM.1) (hM.r 32 rfl) ?_
                      refine r_bipush (pc := 78) (v := 60) d_Md_tape_78 rfl ?_
                      refine ldi_n_5_1 (pc := 80) d_Md_tape_80 ?_
                      refine r_imul (pc := 81) d_Md_tape_81 ?_
                      refine ldi_5_4 (pc := 82) d_Md_tape_82 ?_
                      refine r_iadd (pc := 84) d_Md_tape_84 ?_
                      refine r_lconst (pc := 85) (v := 0) d_Md_tape_85 rfl ?_
                      refine r_last (pc := 86) d_Md_tape_86 (hM.a 32 rfl) (vp_tp ht hk) ?_
                      refine inc_5_4 (pc := 87) (w := 1) d_Md_tape_87 rfl rfl ?_
                      refine r_goto (pc := 90) (tgt := 67) d_Md_tape_90 (by decide) ?_
                      rw [q1]
                      exact ih _
                exact key 0 (by omega) J
              · refine r_iconst (pc := 58) (v := 0) d_Md_tape_58 rfl ?_
                refine r_goto (pc := 59) (tgt := 63) d_Md_tape_59 (by decide) ?_
                refine r_iast (pc := 63) d_Md_tape_63 (hM.a 31 rfl) (vp_in_nI ht (by omega)) ?_
                refine r_nmI (fun I36 hI35 => ?_)
                refine r_iconst (pc := 64) (v := 0) d_Md_tape_64 rfl ?_
                refine sti_5_4 (pc := 65) d_Md_tape_65 rfl ?_
                refine r_nmI (fun Iz _ => ?_)
                rw [q0]
                have key : ∀ k, k ≤ 60 → ∀ J2, qW E y_Md_tape b_Md_tape (some .int) 2 0 0 (fun r S' I' J' => r = some (.int (a_Md_tape (nI t) s n))) 0 0 67 [some (.ref (qb E + 114)), some (.int (nI t)), some (.int s), some (.int n), some (.int (nI k))] [] S Iz J2 := by
                  refine qfor 60 ?_ ?_
                  · intro J2
                    refine ldi_5_4 (pc := 67) d_Md_tape_67 ?_
                    refine r_bipush (pc := 69) (v := 60) d_Md_tape_69 rfl ?_
                    refine r_icmp_ge (pc := 71) (tgt := 93) d_Md_tape_71 (by decide) (fun c => ?_) (fun c => ?_)
                    · refine r_iconst (pc := 93) (v := 1) d_Md_tape_93 rfl ?_
                      exact r_iret d_Md_tape_94 rfl (by omega) (by omega) (by rw [a_Md_tape, if_neg c1, if_neg c2, if_neg c3, if_pos c20, if_neg c21, if_pos c29, if_neg c32])
                    · exact absurd (show nI 60 ≤ nI 60 from by decide) c
                  · intro k hk ih J2
                    refine ldi_5_4 (pc := 67) d_Md_tape_67 ?_
                    refine r_bipush (pc := 69) (v := 60) d_Md_tape_69 rfl ?_
                    refine r_icmp_ge (pc := 71) (tgt := 93) d_Md_tape_71 (by decide) (fun c => ?_) (fun c => ?_)
                    · exact absurd (show nI 60 ≤ nI k from c) (nI_ge hk (by omega))
                    · refine lda_n_5_0 (pc := 74) d_Md_tape_74 ?_
                      refine g_Md_109 (pc := 75) rfl d_Md_tape_75 (hM.1) (hM.r 32 rfl) ?_
                      refine r_bipush (pc := 78) (v := 60) d_Md_tape_78 rfl ?_
                      refine ldi_n_5_1 (pc := 80) d_Md_tape_80 ?_
                      refine r_imul (pc := 81) d_Md_tape_81 ?_
                      refine ldi_5_4 (pc := 82) d_Md_tape_82 ?_
                      refine r_iadd (pc := 84) d_Md_tape_84 ?_
                      refine r_lconst (pc := 85) (v := 0) d_Md_tape_85 rfl ?_
                      refine r_last (pc := 86) d_Md_tape_86 (hM.a 32 rfl) (vp_tp ht hk) ?_
                      refine inc_5_4 (pc := 87) (w := 1) d_Md_tape_87 rfl rfl ?_
                      refine r_goto (pc := 90) (tgt := 67) d_Md_tape_90 (by decide) ?_
                      rw [q1]
                      exact ih _
                exact key 0 (by omega) J
            · refine r_bipush (pc := 39) (v := (-14)) d_Md_tape_39 rfl ?_
              exact r_iret d_Md_tape_41 rfl (by omega) (by omega) (by rw [a_Md_tape, if_neg c1, if_neg c2, if_neg c3, if_pos c20, if_neg c21, if_neg c29])
        · refine r_bipush (pc := 28) (v := (-2)) d_Md_tape_28 rfl ?_
          exact r_iret d_Md_tape_30 rfl (by omega) (by omega) (by rw [a_Md_tape, if_neg c1, if_neg c2, if_neg c3, if_neg c20])
  · refine r_iconst (pc := 7) (v := (-1)) d_Md_tape_7 rfl ?_
    exact r_iret d_Md_tape_8 rfl (by omega) (by omega) (by rw [a_Md_tape, if_pos c1])
end MD4
