/-! the reference: judged, shifted -/
theorem nI_m1 (k : Nat) : nI k + (-1) = nI k - 1 := by
  cases k with
  | zero => decide
  | succ n => rw [pk_m1, nI_pred]

def mcp (J : qJ) (src dst lo hi : Nat) : qJ := fun a k => if a = 147 ∧ dst + lo ≤ k ∧ k < dst + hi then J 147 (src + (k - dst)) else J a k
theorem mcp_0 {J : qJ} {src dst k : Nat} : mcp J src dst k k = J := by funext a j; unfold mcp; rw [if_neg (by omega)]
theorem mcp_up {J : qJ} {src dst k : Nat} (h : mcp J src dst 0 k 147 (src + k) = J 147 (src + k)) : qup (mcp J src dst 0 k) 147 (dst + k) (mcp J src dst 0 k 147 (src + k)) = mcp J src dst 0 (k + 1) := by
  rw [h]
  funext a j
  unfold qup mcp
  by_cases e : a = 147 ∧ j = dst + k
  · rw [if_pos e, if_pos (by omega), e.2, show dst + k - dst = k by omega]
  · rw [if_neg e]
    by_cases e2 : a = 147 ∧ dst + 0 ≤ j ∧ j < dst + k
    · rw [if_pos e2, if_pos (by omega)]
    · rw [if_neg e2, if_neg (by omega)]
theorem mcp_dn {J : qJ} {src dst k m : Nat} (hk : k < m) (h : mcp J src dst (k + 1) m 147 (src + k) = J 147 (src + k)) : qup (mcp J src dst (k + 1) m) 147 (dst + k) (mcp J src dst (k + 1) m 147 (src + k)) = mcp J src dst k m := by
  rw [h]
  funext a j
  unfold qup mcp
  by_cases e : a = 147 ∧ j = dst + k
  · rw [if_pos e, if_pos (by omega), e.2, show dst + k - dst = k by omega]
  · rw [if_neg e]
    by_cases e2 : a = 147 ∧ dst + (k + 1) ≤ j ∧ j < dst + m
    · rw [if_pos e2, if_pos (by omega)]
    · rw [if_neg e2, if_neg (by omega)]
theorem lcmp_add {y p z : Nat} (hy : y < 2 ^ 31) (hp : p < 2 ^ 31) (hz : z < 2 ^ 31) : (lg_cmp ((nI y).toInt64 + (nI p).toInt64) (nI z).toInt64 < 0 ↔ y + p < z) := by
  rw [qcmp_lt, nI_l hy, nI_l hp, nI_l hz, lN_add, pk_lLT (by omega) (by omega)]
section G15
variable {E : qE} {S : qSh} {I : qI} {J : qJ}
theorem c_Md_judge {c : Nat} {tp i : Int32} (hM : isMd S) (hc : I 114 0 = nI c) (c6 : c ≤ 6) (hTs : ∀ t, t < 6 → ∃ z, z ≤ 60 ∧ I 146 t = nI z) : qMet E y_Md_judge b_Md_judge 4 (some .int) 1 0 0 [.ref (qb E + 114), .int tp, .int i] S I J (qAsk S I J) := by
  have hT := hM.1
  have f5 := hM.r 4 rfl
  have g5 := hM.a 4 rfl
  have f53 := hM.r 30 rfl
  have g53 := hM.a 30 rfl
  have f54 := hM.r 31 rfl
  have g54 := hM.a 31 rfl
  have f55 := hM.r 32 rfl
  have g55 := hM.a 32 rfl
  refine qMet.of (L := [some (.ref (qb E + 114)), some (.int tp), some (.int i), none]) (by decide +kernel) (Nat.le_of_ble_eq_true rfl) rfl ?_
  refine ldi_n_4_1 (pc := 0) d_Md_judge_0 ?_
  refine r_iconst (pc := 1) (v := 0) d_Md_judge_1 rfl ?_
  refine r_iconst (pc := 2) (v := 5) d_Md_judge_2 rfl ?_
  refine r_callS (pc := 3) (As := [.int tp, .int 0, .int 5]) k_Md_120 sw_Md_within rfl (by decide) d_Md_judge_3 (c_Md_within tp 0 5) rfl (Nat.le_of_ble_eq_true rfl) (by omega) (by omega) (by omega) (fun v S' I' J' hq => ?_)
  obtain ⟨rfl, rfl, rfl, rfl⟩ := hq
  refine r_if_ne (pc := 6) (tgt := 11) d_Md_judge_6 (by decide) (fun c1 => ?_) (fun c1 => ?_)
  · obtain ⟨t, ht, et⟩ := qtape_y c1
    have ett : tp.toNatClampNeg = t := by rw [et]; exact qcl (by omega)
    have hin : vp_in tp 6 := by rw [et]; exact vp_in_nI ht (by omega)
    obtain ⟨z, hz, ez⟩ := hTs t ht
    have body : qW E y_Md_judge b_Md_judge (some .int) 1 0 0 (qAsk S I J) 0 0 34 [some (.ref (qb E + 114)), some (.int tp), some (.int i), none] [] S I J := by
      refine r_iconst (pc := 34) (v := 0) d_Md_judge_34 rfl ?_
      refine sti_n_4_3 (pc := 35) d_Md_judge_35 rfl ?_
      rw [q0]
      have key : ∀ k, k ≤ c → qW E y_Md_judge b_Md_judge (some .int) 1 0 0 (qAsk S I J) 0 0 36 [some (.ref (qb E + 114)), some (.int tp), some (.int i), some (.int (nI k))] [] S I J := by
        refine qfor c ?_ ?_
        · refine ldi_n_4_3 (pc := 36) d_Md_judge_36 ?_
          refine lda_n_4_0 (pc := 37) d_Md_judge_37 ?_
          refine g_Md_117 (pc := 38) rfl d_Md_judge_38 (by assumption) ?_
          rw [hc]
          refine r_icmp_ge (pc := 41) (tgt := 111) d_Md_judge_41 (by decide) (fun cc => ?_) (fun cc => ?_)
          · refine r_bipush (pc := 111) (v := (-5)) d_Md_judge_111 rfl ?_
            exact r_iret d_Md_judge_113 rfl (by omega) (by omega) (⟨_, rfl, rfl, mSame.rf, rfl⟩)
          · exact absurd (nI_le (Nat.le_refl c) (by omega)) cc
        · intro k hk ih
          have bad : qW E y_Md_judge b_Md_judge (some .int) 1 0 0 (qAsk S I J) 0 0 74 [some (.ref (qb E + 114)), some (.int tp), some (.int i), some (.int (nI k))] [] S I J := by
            refine r_bipush (pc := 74) (v := 100) d_Md_judge_74 rfl ?_
            refine ldi_n_4_3 (pc := 76) d_Md_judge_76 ?_
            refine r_iadd (pc := 77) d_Md_judge_77 ?_
            exact r_iret d_Md_judge_78 rfl (by omega) (by omega) (⟨_, rfl, rfl, mSame.rf, rfl⟩)
          refine ldi_n_4_3 (pc := 36) d_Md_judge_36 ?_
          refine lda_n_4_0 (pc := 37) d_Md_judge_37 ?_
          refine g_Md_117 (pc := 38) rfl d_Md_judge_38 (by assumption) ?_
          rw [hc]
          refine r_icmp_ge (pc := 41) (tgt := 111) d_Md_judge_41 (by decide) (fun cc => ?_) (fun cc => ?_)
          · exact absurd cc (nI_ge hk (by omega))
          · refine lda_n_4_0 (pc := 44) d_Md_judge_44 ?_
            refine g_Md_103 (pc := 45) rfl d_Md_judge_45 (by assumption) (by assumption) ?_
            refine ldi_n_4_1 (pc := 48) d_Md_judge_48 ?_
            refine r_iald (pc := 49) d_Md_judge_49 (by assumption) (by first | assumption | exact vp_in_nI (by omega) (by omega) | (unfold vp_in; decide)) ?_
            refine r_iconst (pc := 50) (v := (-1)) d_Md_judge_50 rfl ?_
            refine r_icmp_eq (pc := 51) (tgt := 74) d_Md_judge_51 (by decide) (fun c2 => ?_) (fun c2 => ?_)
            · exact bad
            · refine ldi_n_4_2 (pc := 54) d_Md_judge_54 ?_
              refine r_if_lt (pc := 55) (tgt := 74) d_Md_judge_55 (by decide) (fun c3 => ?_) (fun c3 => ?_)
              · exact bad
              · obtain ⟨y, hy, ey⟩ := nI_of c3
                refine ldi_n_4_2 (pc := 58) d_Md_judge_58 ?_
                refine r_i2l (pc := 59) d_Md_judge_59 ?_
                refine ldi_n_4_3 (pc := 60) d_Md_judge_60 ?_
                refine r_i2l (pc := 61) d_Md_judge_61 ?_
                refine r_ladd (pc := 62) d_Md_judge_62 ?_
                refine lda_n_4_0 (pc := 63) d_Md_judge_63 ?_
                refine g_Md_106 (pc := 64) rfl d_Md_judge_64 (by assumption) (by assumption) ?_
                refine ldi_n_4_1 (pc := 67) d_Md_judge_67 ?_
                refine r_iald (pc := 68) d_Md_judge_68 (by assumption) (by first | assumption | exact vp_in_nI (by omega) (by omega) | (unfold vp_in; decide)) ?_
                rw [ett, ez]
                refine r_i2l (pc := 69) d_Md_judge_69 ?_
                refine r_lcmp (pc := 70) d_Md_judge_70 ?_
                refine r_if_lt (pc := 71) (tgt := 79) d_Md_judge_71 (by decide) (fun c4 => ?_) (fun c4 => ?_)
                · rw [ey, lcmp_add hy (by omega) (by omega)] at c4
                  have hin2 : vp_in (60 * tp + i + nI k) 360 := by
                    rw [et, ey, show (60 : Int32) = nI 60 from rfl, pk_mul, nI_add, nI_add]; exact vp_in_nI (by omega) (by omega)
                  refine lda_n_4_0 (pc := 79) d_Md_judge_79 ?_
                  refine g_Md_109 (pc := 80) rfl d_Md_judge_80 (by assumption) (by assumption) ?_
                  refine r_bipush (pc := 83) (v := 60) d_Md_judge_83 rfl ?_
                  refine ldi_n_4_1 (pc := 85) d_Md_judge_85 ?_
                  refine r_imul (pc := 86) d_Md_judge_86 ?_
                  refine ldi_n_4_2 (pc := 87) d_Md_judge_87 ?_
                  refine r_iadd (pc := 88) d_Md_judge_88 ?_
                  refine ldi_n_4_3 (pc := 89) d_Md_judge_89 ?_
                  refine r_iadd (pc := 90) d_Md_judge_90 ?_
                  refine r_lald (pc := 91) d_Md_judge_91 (by assumption) (by first | assumption | exact vp_in_nI (by omega) (by omega) | (unfold vp_in; decide)) ?_
                  refine lda_n_4_0 (pc := 92) d_Md_judge_92 ?_
                  refine g_Md_24 (pc := 93) rfl d_Md_judge_93 (by assumption) (by assumption) ?_
                  refine ldi_n_4_3 (pc := 96) d_Md_judge_96 ?_
                  refine r_iald (pc := 97) d_Md_judge_97 (by assumption) (by first | assumption | exact vp_in_nI (by omega) (by omega) | (unfold vp_in; decide)) ?_
                  refine r_i2l (pc := 98) d_Md_judge_98 ?_
                  refine r_lcmp (pc := 99) d_Md_judge_99 ?_
                  refine r_if_eq (pc := 100) (tgt := 105) d_Md_judge_100 (by decide) (fun c5 => ?_) (fun c5 => ?_)
                  · refine inc_4_3 (pc := 105) (w := 1) d_Md_judge_105 rfl rfl ?_
                    refine r_goto (pc := 108) (tgt := 36) d_Md_judge_108 (by decide) ?_
                    rw [q1]
                    exact ih
                  · refine ldi_n_4_3 (pc := 103) d_Md_judge_103 ?_
                    exact r_iret d_Md_judge_104 rfl (by omega) (by omega) (⟨_, rfl, rfl, mSame.rf, rfl⟩)
                · exact bad
      exact key 0 (by omega)
    refine lda_n_4_0 (pc := 11) d_Md_judge_11 ?_
    refine g_Md_103 (pc := 12) rfl d_Md_judge_12 (by assumption) (by assumption) ?_
    refine ldi_n_4_1 (pc := 15) d_Md_judge_15 ?_
    refine r_iald (pc := 16) d_Md_judge_16 (by assumption) (by first | assumption | exact vp_in_nI (by omega) (by omega) | (unfold vp_in; decide)) ?_
    refine r_iconst (pc := 17) (v := (-1)) d_Md_judge_17 rfl ?_
    refine r_icmp_eq (pc := 18) (tgt := 34) d_Md_judge_18 (by decide) (fun c2 => ?_) (fun c2 => ?_)
    · exact body
    · refine lda_n_4_0 (pc := 21) d_Md_judge_21 ?_
      refine g_Md_103 (pc := 22) rfl d_Md_judge_22 (by assumption) (by assumption) ?_
      refine ldi_n_4_1 (pc := 25) d_Md_judge_25 ?_
      refine r_iald (pc := 26) d_Md_judge_26 (by assumption) (by first | assumption | exact vp_in_nI (by omega) (by omega) | (unfold vp_in; decide)) ?_
      refine r_iconst (pc := 27) (v := 2) d_Md_judge_27 rfl ?_
      refine r_icmp_eq (pc := 28) (tgt := 34) d_Md_judge_28 (by decide) (fun c3 => ?_) (fun c3 => ?_)
      · exact body
      · refine r_bipush (pc := 31) (v := (-12)) d_Md_judge_31 rfl ?_
        exact r_iret d_Md_judge_33 rfl (by omega) (by omega) (⟨_, rfl, rfl, mSame.rf, rfl⟩)
  · refine r_iconst (pc := 9) (v := (-1)) d_Md_judge_9 rfl ?_
    exact r_iret d_Md_judge_10 rfl (by omega) (by omega) (⟨_, rfl, rfl, mSame.rf, rfl⟩)
def qSh1 (S : qSh) (I : qI) (J : qJ) (tp i tq j n : Int32) : qPost := fun r S' I' J' => S = S' ∧ I = I' ∧ ((qwithin tp 0 5 = 0 ∨ qwithin tq 0 5 = 0) ∧ r = some (.int (-1)) ∧ J = J' ∨ ∃ t u, t < 6 ∧ u < 6 ∧ tp = nI t ∧ tq = nI u ∧ ((I 145 t < 0 ∨ I 145 u < 0) ∧ r = some (.int (-11)) ∧ J = J' ∨ ¬ I 145 t < 0 ∧ ¬ I 145 u < 0 ∧ ¬ I 145 t = I 145 u ∧ r = some (.int (-12)) ∧ J = J' ∨ ¬ I 145 t < 0 ∧ I 145 t = I 145 u ∧ (∀ x y m, i = nI x → j = nI y → n = nI m → x < 2 ^ 31 → y < 2 ^ 31 → m < 2 ^ 31 → ¬ (nI (x + m) = nI (x + m) ∧ (∃ z, I 146 t = nI z ∧ z ≤ 60 ∧ x + m ≤ z) ∧ ∃ z, I 146 u = nI z ∧ z ≤ 60 ∧ y + m ≤ z)) ∧ r = some (.int (-13)) ∧ J = J' ∨ ¬ I 145 t < 0 ∧ I 145 t = I 145 u ∧ ∃ x y m, i = nI x ∧ j = nI y ∧ n = nI m ∧ (∃ z, I 146 t = nI z ∧ z ≤ 60 ∧ x + m ≤ z) ∧ (∃ z, I 146 u = nI z ∧ z ≤ 60 ∧ y + m ≤ z) ∧ r = some (.int n) ∧ J' = mcp J (60 * t + x) (60 * u + y) 0 m))
theorem c_Md_shift {tp i tq j n : Int32} (hM : isMd S) (hTs : ∀ t, t < 6 → ∃ z, z ≤ 60 ∧ I 146 t = nI z) : qMet E y_Md_shift b_Md_shift 7 (some .int) 2 0 0 [.ref (qb E + 114), .int tp, .int i, .int tq, .int j, .int n] S I J (qSh1 S I J tp i tq j n) := by
  have hT := hM.1
  have f53 := hM.r 30 rfl
  have g53 := hM.a 30 rfl
  have f54 := hM.r 31 rfl
  have g54 := hM.a 31 rfl
  have f55 := hM.r 32 rfl
  have g55 := hM.a 32 rfl
  refine qMet.of (L := [some (.ref (qb E + 114)), some (.int tp), some (.int i), some (.int tq), some (.int j), some (.int n), none]) (by decide +kernel) (Nat.le_of_ble_eq_true rfl) rfl ?_
  refine ldi_n_7_1 (pc := 0) d_Md_shift_0 ?_
  refine r_callS (pc := 1) (As := [.int tp]) k_Md_361 sw_Md_isTape rfl (by decide) d_Md_shift_1 (c_Md_isTape tp) rfl (Nat.le_of_ble_eq_true rfl) (by omega) (by omega) (by omega) (fun v S' I' J' hq => ?_)
  obtain ⟨rfl, rfl, rfl, rfl⟩ := hq
  refine r_if_eq (pc := 4) (tgt := 14) d_Md_shift_4 (by decide) (fun c1 => ?_) (fun c1 => ?_)
  · refine r_iconst (pc := 14) (v := (-1)) d_Md_shift_14 rfl ?_
    exact r_iret d_Md_shift_15 rfl (by omega) (by omega) (⟨rfl, rfl, Or.inl ⟨Or.inl c1, rfl, rfl⟩⟩)
  · refine ldi_n_7_3 (pc := 7) d_Md_shift_7 ?_
    refine r_callS (pc := 8) (As := [.int tq]) k_Md_361 sw_Md_isTape rfl (by decide) d_Md_shift_8 (c_Md_isTape tq) rfl (Nat.le_of_ble_eq_true rfl) (by omega) (by omega) (by omega) (fun v S' I' J' hq => ?_)
    obtain ⟨rfl, rfl, rfl, rfl⟩ := hq
    refine r_if_ne (pc := 11) (tgt := 16) d_Md_shift_11 (by decide) (fun c2 => ?_) (fun c2 => ?_)
    · obtain ⟨t, ht, et⟩ := qtape_y c1
      obtain ⟨u, hu, eu⟩ := qtape_y c2
      have ett : tp.toNatClampNeg = t := by rw [et]; exact qcl (by omega)
      have euu : tq.toNatClampNeg = u := by rw [eu]; exact qcl (by omega)
      have hint : vp_in tp 6 := by rw [et]; exact vp_in_nI ht (by omega)
      have hinu : vp_in tq 6 := by rw [eu]; exact vp_in_nI hu (by omega)
      obtain ⟨zt, hzt, ezt⟩ := hTs t ht
      obtain ⟨zu, hzu, ezu⟩ := hTs u hu
      have r11 : (I 145 t < 0 ∨ I 145 u < 0) → qW E y_Md_shift b_Md_shift (some .int) 2 0 0 (qSh1 S I J tp i tq j n) 0 0 34 [some (.ref (qb E + 114)), some (.int tp), some (.int i), some (.int tq), some (.int j), some (.int n), none] [] S I J := by
        intro hb
        refine r_bipush (pc := 34) (v := (-11)) d_Md_shift_34 rfl ?_
        exact r_iret d_Md_shift_36 rfl (by omega) (by omega) (⟨rfl, rfl, Or.inr ⟨t, u, ht, hu, et, eu, Or.inl ⟨hb, rfl, rfl⟩⟩⟩)
      refine lda_n_7_0 (pc := 16) d_Md_shift_16 ?_
      refine g_Md_103 (pc := 17) rfl d_Md_shift_17 (by assumption) (by assumption) ?_
      refine ldi_n_7_1 (pc := 20) d_Md_shift_20 ?_
      refine r_iald (pc := 21) d_Md_shift_21 (by assumption) (by first | assumption | exact vp_in_nI (by omega) (by omega) | (unfold vp_in; decide)) ?_
      rw [ett]
      refine r_if_lt (pc := 22) (tgt := 34) d_Md_shift_22 (by decide) (fun c3 => ?_) (fun c3 => ?_)
      · exact r11 (Or.inl c3)
      · refine lda_n_7_0 (pc := 25) d_Md_shift_25 ?_
        refine g_Md_103 (pc := 26) rfl d_Md_shift_26 (by assumption) (by assumption) ?_
        refine ldi_n_7_3 (pc := 29) d_Md_shift_29 ?_
        refine r_iald (pc := 30) d_Md_shift_30 (by assumption) (by first | assumption | exact vp_in_nI (by omega) (by omega) | (unfold vp_in; decide)) ?_
        rw [euu]
        refine r_if_ge (pc := 31) (tgt := 37) d_Md_shift_31 (by decide) (fun c4 => ?_) (fun c4 => ?_)
        · have c4 := Int32.not_lt.mpr c4
          refine lda_n_7_0 (pc := 37) d_Md_shift_37 ?_
          refine g_Md_103 (pc := 38) rfl d_Md_shift_38 (by assumption) (by assumption) ?_
          refine ldi_n_7_1 (pc := 41) d_Md_shift_41 ?_
          refine r_iald (pc := 42) d_Md_shift_42 (by assumption) (by first | assumption | exact vp_in_nI (by omega) (by omega) | (unfold vp_in; decide)) ?_
          rw [ett]
          refine lda_n_7_0 (pc := 43) d_Md_shift_43 ?_
          refine g_Md_103 (pc := 44) rfl d_Md_shift_44 (by assumption) (by assumption) ?_
          refine ldi_n_7_3 (pc := 47) d_Md_shift_47 ?_
          refine r_iald (pc := 48) d_Md_shift_48 (by assumption) (by first | assumption | exact vp_in_nI (by omega) (by omega) | (unfold vp_in; decide)) ?_
          rw [euu]
          refine r_icmp_eq (pc := 49) (tgt := 55) d_Md_shift_49 (by decide) (fun c5 => ?_) (fun c5 => ?_)
          · have r13 : (∀ x y m, i = nI x → j = nI y → n = nI m → x < 2 ^ 31 → y < 2 ^ 31 → m < 2 ^ 31 → ¬ (nI (x + m) = nI (x + m) ∧ (∃ z, I 146 t = nI z ∧ z ≤ 60 ∧ x + m ≤ z) ∧ ∃ z, I 146 u = nI z ∧ z ≤ 60 ∧ y + m ≤ z)) → qW E y_Md_shift b_Md_shift (some .int) 2 0 0 (qSh1 S I J tp i tq j n) 0 0 104 [some (.ref (qb E + 114)), some (.int tp), some (.int i), some (.int tq), some (.int j), some (.int n), none] [] S I J := by
              intro hb
              refine r_bipush (pc := 104) (v := (-13)) d_Md_shift_104 rfl ?_
              exact r_iret d_Md_shift_106 rfl (by omega) (by omega) (⟨rfl, rfl, Or.inr ⟨t, u, ht, hu, et, eu, Or.inr (Or.inr (Or.inl ⟨c3, c5, hb, rfl, rfl⟩))⟩⟩)
            have neg : ∀ {a : Int32} {k : Nat}, a < 0 → k < 2 ^ 31 → a = nI k → False := fun h1 h2 h3 => by rw [h3] at h1; exact absurd h1 (nI_pos h2)
            refine ldi_7_5 (pc := 55) d_Md_shift_55 ?_
            refine r_if_lt (pc := 57) (tgt := 104) d_Md_shift_57 (by decide) (fun d1 => ?_) (fun d1 => ?_)
            · exact r13 (fun x y m _ _ h _ _ hm => (neg d1 hm h).elim)
            · refine ldi_n_7_2 (pc := 60) d_Md_shift_60 ?_
              refine r_if_lt (pc := 61) (tgt := 104) d_Md_shift_61 (by decide) (fun d2 => ?_) (fun d2 => ?_)
              · exact r13 (fun x y m h _ _ hx _ _ => (neg d2 hx h).elim)
              · refine ldi_7_4 (pc := 64) d_Md_shift_64 ?_
                refine r_if_lt (pc := 66) (tgt := 104) d_Md_shift_66 (by decide) (fun d3 => ?_) (fun d3 => ?_)
                · exact r13 (fun x y m _ h _ _ hy _ => (neg d3 hy h).elim)
                · obtain ⟨m, hm, rfl⟩ := nI_of d1
                  obtain ⟨x, hx, rfl⟩ := nI_of d2
                  obtain ⟨y, hy, rfl⟩ := nI_of d3
                  refine ldi_n_7_2 (pc := 69) d_Md_shift_69 ?_
                  refine r_i2l (pc := 70) d_Md_shift_70 ?_
                  refine ldi_7_5 (pc := 71) d_Md_shift_71 ?_
                  refine r_i2l (pc := 73) d_Md_shift_73 ?_
                  refine r_ladd (pc := 74) d_Md_shift_74 ?_
                  refine lda_n_7_0 (pc := 75) d_Md_shift_75 ?_
                  refine g_Md_106 (pc := 76) rfl d_Md_shift_76 (by assumption) (by assumption) ?_
                  refine ldi_n_7_1 (pc := 79) d_Md_shift_79 ?_
                  refine r_iald (pc := 80) d_Md_shift_80 (by assumption) (by first | assumption | exact vp_in_nI (by omega) (by omega) | (unfold vp_in; decide)) ?_
                  rw [ett, ezt]
                  refine r_i2l (pc := 81) d_Md_shift_81 ?_
                  refine r_lcmp (pc := 82) d_Md_shift_82 ?_
                  refine r_if_gt (pc := 83) (tgt := 104) d_Md_shift_83 (by decide) (fun d4 => ?_) (fun d4 => ?_)
                  · refine r13 (fun x' y' m' hx' _ hm' x1 _ m1 hc => ?_)
                    obtain ⟨-, ⟨z, z1, z2, z3⟩, -⟩ := hc
                    have a1 := (nI_eq hx x1).mp hx'
                    have a2 := (nI_eq hm m1).mp hm'
                    have a3 : zt = z := (nI_eq (by omega) (by omega)).mp (ezt.symm.trans z1)
                    have : lg_cmp ((nI x).toInt64 + (nI m).toInt64) (nI zt).toInt64 ≤ 0 := by
                      have hh : lg_cmp (lN (x + m)) (lN zt) ≤ 0 := by
                        unfold lg_cmp
                        rw [if_neg]
                        · split <;> decide
                        · show ¬ lN zt < lN (x + m)
                          rw [pk_lLT (by omega) (by omega)]; omega
                      rw [nI_l hx, nI_l hm, nI_l (by omega), lN_add]; exact hh
                    exact absurd d4 (Int32.not_lt.mpr this)
                  · have hxz : x + m ≤ zt := by
                      rcases Nat.lt_or_ge zt (x + m) with q | q
                      · exfalso
                        refine d4 ?_
                        rw [nI_l hx, nI_l hm, nI_l (by omega), lN_add]
                        unfold lg_cmp
                        rw [if_pos (show lN (x + m) > lN zt from (pk_lLT (by omega) (by omega)).mpr q)]
                        decide
                      · exact q
                    refine ldi_7_4 (pc := 86) d_Md_shift_86 ?_
                    refine r_i2l (pc := 88) d_Md_shift_88 ?_
                    refine ldi_7_5 (pc := 89) d_Md_shift_89 ?_
                    refine r_i2l (pc := 91) d_Md_shift_91 ?_
                    refine r_ladd (pc := 92) d_Md_shift_92 ?_
                    refine lda_n_7_0 (pc := 93) d_Md_shift_93 ?_
                    refine g_Md_106 (pc := 94) rfl d_Md_shift_94 (by assumption) (by assumption) ?_
                    refine ldi_n_7_3 (pc := 97) d_Md_shift_97 ?_
                    refine r_iald (pc := 98) d_Md_shift_98 (by assumption) (by first | assumption | exact vp_in_nI (by omega) (by omega) | (unfold vp_in; decide)) ?_
                    rw [euu, ezu]
                    refine r_i2l (pc := 99) d_Md_shift_99 ?_
                    refine r_lcmp (pc := 100) d_Md_shift_100 ?_
                    refine r_if_le (pc := 101) (tgt := 107) d_Md_shift_101 (by decide) (fun d5 => ?_) (fun d5 => ?_)
                    · have hyz : y + m ≤ zu := by
                        rcases Nat.lt_or_ge zu (y + m) with q | q
                        · exfalso
                          refine absurd d5 ?_
                          rw [nI_l hy, nI_l hm, nI_l (by omega), lN_add]
                          unfold lg_cmp
                          rw [if_pos (show lN (y + m) > lN zu from (pk_lLT (by omega) (by omega)).mpr q)]
                          decide
                        · exact q
                      have fin : ∀ (J2 : qJ) (a6 : Option Value), J2 = mcp J (60 * t + x) (60 * u + y) 0 m → qW E y_Md_shift b_Md_shift (some .int) 2 0 0 (qSh1 S I J tp (nI x) tq (nI y) (nI m)) 0 0 212 [some (.ref (qb E + 114)), some (.int tp), some (.int (nI x)), some (.int tq), some (.int (nI y)), some (.int (nI m)), a6] [] S I J2 := by
                        intro J2 a6 h2
                        refine ldi_7_5 (pc := 212) d_Md_shift_212 ?_
                        exact r_iret d_Md_shift_214 rfl (by omega) (by omega) (⟨rfl, rfl, Or.inr ⟨t, u, ht, hu, et, eu, Or.inr (Or.inr (Or.inr ⟨c3, c5, x, y, m, rfl, rfl, rfl, ⟨zt, ezt, hzt, hxz⟩, ⟨zu, ezu, hzu, hyz⟩, rfl, h2⟩))⟩⟩)
                      have ix : ∀ (a b k : Nat) (p : Int32), p = nI a → a < 6 → b + k < 60 → vp_in (60 * p + nI b + nI k) 360 ∧ (60 * p + nI b + nI k).toNatClampNeg = 60 * a + b + k := by
                        intro a b k p hp ha hb
                        have e : 60 * p + nI b + nI k = nI (60 * a + b + k) := by rw [hp, show (60 : Int32) = nI 60 from rfl, pk_mul, nI_add, nI_add]
                        rw [e]
                        exact ⟨vp_in_nI (by omega) (by omega), qcl (by omega)⟩
                      have up : (¬ t = u ∨ y ≤ x) → qW E y_Md_shift b_Md_shift (some .int) 2 0 0 (qSh1 S I J tp (nI x) tq (nI y) (nI m)) 0 0 167 [some (.ref (qb E + 114)), some (.int tp), some (.int (nI x)), some (.int tq), some (.int (nI y)), some (.int (nI m)), none] [] S I J := by
                        intro hd
                        refine r_iconst (pc := 167) (v := 0) d_Md_shift_167 rfl ?_
                        refine sti_7_6 (pc := 168) d_Md_shift_168 rfl ?_
                        rw [q0]
                        have lp : ∀ k, k ≤ m → qW E y_Md_shift b_Md_shift (some .int) 2 0 0 (qSh1 S I J tp (nI x) tq (nI y) (nI m)) 0 0 170 [some (.ref (qb E + 114)), some (.int tp), some (.int (nI x)), some (.int tq), some (.int (nI y)), some (.int (nI m)), some (.int (nI k))] [] S I (mcp J (60 * t + x) (60 * u + y) 0 k) := by
                          refine qfor m ?_ ?_
                          · refine ldi_7_6 (pc := 170) d_Md_shift_170 ?_
                            refine ldi_7_5 (pc := 172) d_Md_shift_172 ?_
                            refine r_icmp_ge (pc := 174) (tgt := 212) d_Md_shift_174 (by decide) (fun cc => ?_) (fun cc => ?_)
                            · exact fin _ _ rfl
                            · exact absurd (nI_le (Nat.le_refl m) (by omega)) cc
                          · intro k hk ih
                            obtain ⟨v1, v2⟩ := ix t x k tp et ht (by omega)
                            obtain ⟨w1, w2⟩ := ix u y k tq eu hu (by omega)
                            refine ldi_7_6 (pc := 170) d_Md_shift_170 ?_
                            refine ldi_7_5 (pc := 172) d_Md_shift_172 ?_
                            refine r_icmp_ge (pc := 174) (tgt := 212) d_Md_shift_174 (by decide) (fun cc => ?_) (fun cc => ?_)
                            · exact absurd cc (nI_ge hk (by omega))
                            · refine lda_n_7_0 (pc := 177) d_Md_shift_177 ?_
                              refine g_Md_109 (pc := 178) rfl d_Md_shift_178 (by assumption) (by assumption) ?_
                              refine r_bipush (pc := 181) (v := 60) d_Md_shift_181 rfl ?_
                              refine ldi_n_7_3 (pc := 183) d_Md_shift_183 ?_
                              refine r_imul (pc := 184) d_Md_shift_184 ?_
                              refine ldi_7_4 (pc := 185) d_Md_shift_185 ?_
                              refine r_iadd (pc := 187) d_Md_shift_187 ?_
                              refine ldi_7_6 (pc := 188) d_Md_shift_188 ?_
                              refine r_iadd (pc := 190) d_Md_shift_190 ?_
                              refine lda_n_7_0 (pc := 191) d_Md_shift_191 ?_
                              refine g_Md_109 (pc := 192) rfl d_Md_shift_192 (by assumption) (by assumption) ?_
                              refine r_bipush (pc := 195) (v := 60) d_Md_shift_195 rfl ?_
                              refine ldi_n_7_1 (pc := 197) d_Md_shift_197 ?_
                              refine r_imul (pc := 198) d_Md_shift_198 ?_
                              refine ldi_n_7_2 (pc := 199) d_Md_shift_199 ?_
                              refine r_iadd (pc := 200) d_Md_shift_200 ?_
                              refine ldi_7_6 (pc := 201) d_Md_shift_201 ?_
                              refine r_iadd (pc := 203) d_Md_shift_203 ?_
                              refine r_lald (pc := 204) d_Md_shift_204 (by assumption) (by first | assumption | exact vp_in_nI (by omega) (by omega) | (unfold vp_in; decide)) ?_
                              refine r_last (pc := 205) d_Md_shift_205 (by assumption) (by first | assumption | exact vp_in_nI (by omega) (by omega) | (unfold vp_in; decide)) ?_
                              refine inc_7_6 (pc := 206) (w := 1) d_Md_shift_206 rfl rfl ?_
                              refine r_goto (pc := 209) (tgt := 170) d_Md_shift_209 (by decide) ?_
                              rw [v2, w2, mcp_up, q1]
                              · exact ih
                              · unfold mcp
                                rw [if_neg]
                                rintro ⟨-, g1, g2⟩
                                rcases hd with hd | hd
                                · omega
                                · have := Nat.lt_or_ge t u
                                  by_cases e : t = u
                                  · subst e; omega
                                  · omega
                        have h0 := lp 0 (by omega)
                        rw [mcp_0] at h0
                        exact h0
                      refine ldi_n_7_1 (pc := 107) d_Md_shift_107 ?_
                      refine ldi_n_7_3 (pc := 108) d_Md_shift_108 ?_
                      refine r_icmp_ne (pc := 109) (tgt := 167) d_Md_shift_109 (by decide) (fun f1 => ?_) (fun f1 => ?_)
                      · refine up (Or.inl (fun e => ?_))
                        rw [et, eu, e] at f1
                        exact f1 rfl
                      · have etu : t = u := by rw [et, eu] at f1; exact (nI_eq (by omega) (by omega)).mp f1
                        refine ldi_n_7_2 (pc := 112) d_Md_shift_112 ?_
                        refine ldi_7_4 (pc := 113) d_Md_shift_113 ?_
                        refine r_icmp_ge (pc := 115) (tgt := 167) d_Md_shift_115 (by decide) (fun f2 => ?_) (fun f2 => ?_)
                        · refine up (Or.inr ?_)
                          rcases Nat.lt_or_ge x y with q | q
                          · exact absurd f2 (nI_ge q hy)
                          · exact q
                        · have hxy : x < y := by
                            rcases Nat.lt_or_ge x y with q | q
                            · exact q
                            · exact absurd (nI_le q hx) f2
                          have dn : ∀ k, k ≤ m → qW E y_Md_shift b_Md_shift (some .int) 2 0 0 (qSh1 S I J tp (nI x) tq (nI y) (nI m)) 0 0 124 [some (.ref (qb E + 114)), some (.int tp), some (.int (nI x)), some (.int tq), some (.int (nI y)), some (.int (nI m)), some (.int (nI k - 1))] [] S I (mcp J (60 * t + x) (60 * u + y) k m) := by
                            intro k
                            induction k with
                            | zero =>
                              intro hk
                              refine ldi_7_6 (pc := 124) d_Md_shift_124 ?_
                              refine r_if_lt (pc := 126) (tgt := 164) d_Md_shift_126 (by decide) (fun cc => ?_) (fun cc => ?_)
                              · refine r_goto (pc := 164) (tgt := 212) d_Md_shift_164 (by decide) ?_
                                exact fin _ _ rfl
                              · exact absurd (by decide) cc
                            | succ k ih =>
                              intro hk
                              obtain ⟨v1, v2⟩ := ix t x k tp et ht (by omega)
                              obtain ⟨w1, w2⟩ := ix u y k tq eu hu (by omega)
                              have hih := ih (by omega)
                              refine ldi_7_6 (pc := 124) d_Md_shift_124 ?_
                              rw [nI_pred]
                              refine r_if_lt (pc := 126) (tgt := 164) d_Md_shift_126 (by decide) (fun cc => ?_) (fun cc => ?_)
                              · exact absurd cc (nI_pos (by omega))
                              · refine lda_n_7_0 (pc := 129) d_Md_shift_129 ?_
                                refine g_Md_109 (pc := 130) rfl d_Md_shift_130 (by assumption) (by assumption) ?_
                                refine r_bipush (pc := 133) (v := 60) d_Md_shift_133 rfl ?_
                                refine ldi_n_7_3 (pc := 135) d_Md_shift_135 ?_
                                refine r_imul (pc := 136) d_Md_shift_136 ?_
                                refine ldi_7_4 (pc := 137) d_Md_shift_137 ?_
                                refine r_iadd (pc := 139) d_Md_shift_139 ?_
                                refine ldi_7_6 (pc := 140) d_Md_shift_140 ?_
                                refine r_iadd (pc := 142) d_Md_shift_142 ?_
                                refine lda_n_7_0 (pc := 143) d_Md_shift_143 ?_
                                refine g_Md_109 (pc := 144) rfl d_Md_shift_144 (by assumption) (by assumption) ?_
                                refine r_bipush (pc := 147) (v := 60) d_Md_shift_147 rfl ?_
                                refine ldi_n_7_1 (pc := 149) d_Md_shift_149 ?_
                                refine r_imul (pc := 150) d_Md_shift_150 ?_
                                refine ldi_n_7_2 (pc := 151) d_Md_shift_151 ?_
                                refine r_iadd (pc := 152) d_Md_shift_152 ?_
                                refine ldi_7_6 (pc := 153) d_Md_shift_153 ?_
                                refine r_iadd (pc := 155) d_Md_shift_155 ?_
                                refine r_lald (pc := 156) d_Md_shift_156 (by assumption) (by first | assumption | exact vp_in_nI (by omega) (by omega) | (unfold vp_in; decide)) ?_
                                refine r_last (pc := 157) d_Md_shift_157 (by assumption) (by first | assumption | exact vp_in_nI (by omega) (by omega) | (unfold vp_in; decide)) ?_
                                refine inc_7_6 (pc := 158) (w := (-1)) d_Md_shift_158 rfl rfl ?_
                                refine r_goto (pc := 161) (tgt := 124) d_Md_shift_161 (by decide) ?_
                                rw [v2, w2, mcp_dn (by omega)]
                                · rw [nI_m1]
                                  exact hih
                                · unfold mcp
                                  rw [if_neg]
                                  rintro ⟨-, g1, g2⟩
                                  subst etu
                                  omega
                          have h0 := dn m (Nat.le_refl m)
                          rw [mcp_0] at h0
                          refine ldi_7_5 (pc := 118) d_Md_shift_118 ?_
                          refine r_iconst (pc := 120) (v := 1) d_Md_shift_120 rfl ?_
                          refine r_isub (pc := 121) d_Md_shift_121 ?_
                          refine sti_7_6 (pc := 122) d_Md_shift_122 rfl ?_
                          exact h0
                    · refine r13 (fun x' y' m' _ hy' hm' _ y1 m1 hc => ?_)
                      obtain ⟨-, -, ⟨z, z1, z2, z3⟩⟩ := hc
                      have a1 := (nI_eq hy y1).mp hy'
                      have a2 := (nI_eq hm m1).mp hm'
                      have a3 : zu = z := (nI_eq (by omega) (by omega)).mp (ezu.symm.trans z1)
                      refine d5 ?_
                      rw [nI_l hy, nI_l hm, nI_l (by omega), lN_add]
                      unfold lg_cmp
                      rw [if_neg]
                      · split <;> decide
                      · show ¬ lN zu < lN (y + m)
                        rw [pk_lLT (by omega) (by omega)]; omega
          · refine r_bipush (pc := 52) (v := (-12)) d_Md_shift_52 rfl ?_
            exact r_iret d_Md_shift_54 rfl (by omega) (by omega) (⟨rfl, rfl, Or.inr ⟨t, u, ht, hu, et, eu, Or.inr (Or.inl ⟨c3, c4, c5, rfl, rfl⟩)⟩⟩)
        · exact r11 (Or.inr (Int32.not_le.mp c4))
    · refine r_iconst (pc := 14) (v := (-1)) d_Md_shift_14 rfl ?_
      exact r_iret d_Md_shift_15 rfl (by omega) (by omega) (⟨rfl, rfl, Or.inl ⟨Or.inr c2, rfl, rfl⟩⟩)
end G15
