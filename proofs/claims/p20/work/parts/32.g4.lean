/-! PAIN, a day that goes, days that go -/
theorem mlostN_only {I K : qI} {h : Nat} (hK : q130 I K) : ∀ k, mlostN K h k = mlostN I h k := by
  intro k
  induction k with
  | zero => rfl
  | succ k ih => rw [mlostN, mlostN, ih, hK 125 (by decide), hK 126 (by decide)]
theorem mlost_only {I K : qI} (hK : q130 I K) : mlost K = mlost I := by
  unfold mlost
  rw [hK 114 (by decide), hK 124 (by decide), mlostN_only hK]
theorem msumN_only {I K : qI} {p h : Nat} {w d : Int32} (hK : q130 I K) : ∀ k, msumN K p w d h k = msumN I p w d h k := by
  intro k
  induction k with
  | zero => rw [msumN, msumN, hK 117 (by decide)]
  | succ k ih => rw [msumN, msumN, ih, hK 125 (by decide), hK 126 (by decide), mtrue_only hK]
theorem msum_only {I K : qI} {p : Nat} {w d : Int32} (hK : q130 I K) : msum K p w d = msum I p w d := by
  unfold msum
  rw [hK 114 (by decide), hK 124 (by decide), hK 117 (by decide), msumN_only hK]
theorem mpain_only {I K : qI} {p : Nat} {w d : Int32} (hK : q130 I K) : mpain K p d w = mpain I p d w := by
  unfold mpain mpn
  rw [msum_only hK, hK 115 (by decide), hK 116 (by decide), hK 121 (by decide)]
theorem mtodN_in {I : qI} {l : Nat} (hL : ∀ k, k < 6 → ∃ p, p < 6 ∧ I 122 k = nI p) : ∀ j, j ≤ l → l ≤ 6 → mtodN I l j = -5 ∨ ∃ p, p < 6 ∧ mtodN I l j = nI p := by
  intro j
  induction j with
  | zero => intro _ _; exact Or.inl rfl
  | succ j ih =>
    intro hj h6
    rw [mtodN]
    split
    · obtain ⟨p, hp, ep⟩ := hL (l - (j + 1)) (by omega)
      exact Or.inr ⟨p, hp, ep⟩
    · exact ih (by omega) h6
theorem mtod_in {I : qI} {l : Nat} (hl : I 114 8 = nI l) (h6 : l ≤ 6) (hL : ∀ k, k < 6 → ∃ p, p < 6 ∧ I 122 k = nI p) : mtod I = -5 ∨ ∃ p, p < 6 ∧ mtod I = nI p := by
  unfold mtod
  rw [hl, qcl (n := l) (by omega)]
  split
  · exact mtodN_in hL l (Nat.le_refl l) h6
  · exact Or.inl rfl
theorem qday4 {d : Nat} (h : d < 2 ^ 31) : nI d - nI d / 4 * 4 = nI (d % 4) := by
  rw [show (4 : Int32) = nI 4 from rfl]; exact pk_rem h (by decide) (by decide)
theorem mgoP_row {I : qI} {one : Int32} {p a : Nat} (h1 : a ≠ 118) (h2 : a ≠ 119) : mgoP I one p a = I a := by
  unfold mgoP; repeat' split
  · rfl
  · rfl
  · rw [qup_row h1, qup_row h2]
theorem mgoPs_row {I : qI} {one : Int32} {a : Nat} (h1 : a ≠ 118) (h2 : a ≠ 119) : ∀ n, mgoPs I one n a = I a := by
  intro n
  induction n with
  | zero => rfl
  | succ n ih => rw [mgoPs, mgoP_row h1 h2, ih]
theorem mgo1_row {I : qI} {a : Nat} (h1 : a ≠ 118) (h2 : a ≠ 119) (h3 : a ≠ 120) (h4 : a ≠ 114) : mgo1 I a = I a := by
  unfold mgo1
  rw [qup_row h4]
  split
  · exact mgoPs_row h1 h2 _
  · rw [qup_row h3]; exact mgoPs_row h1 h2 _
theorem mgo1_f {I : qI} {j : Nat} (h : j ≠ 10) : mgo1 I 114 j = I 114 j := by
  unfold mgo1
  rw [qup_j h]
  split
  · rw [mgoPs_row (by decide) (by decide)]
  · rw [qup_o (by decide), mgoPs_row (by decide) (by decide)]
theorem mgo1_d {I : qI} : mgo1 I 114 10 = I 114 10 + 1 := by unfold mgo1; rw [qup_at]
theorem q130.upp {I I' : qI} {a j : Nat} {v : Int32} (h : q130 I I') : q130 (qup I a j v) (qup I' a j v) := fun b hb => by
  by_cases e : b = a
  · subst e; funext i; unfold qup; rw [h b hb]
  · rw [qup_row e, qup_row e, h b hb]
section G4
variable {E : qE} {S : qSh} {I : qI} {J : qJ}
theorem c_Md_pain {n p dd : Nat} {d w : Int32} (hM : isMd S) (hI : mIs I n) (hh : mHo I n) (hp : p < 6) (hd : d = nI dd) (hdd : dd < 2 ^ 31) : qMet E y_Md_pain b_Md_pain 5 (some .int) 3 0 0 [.ref (qb E + 114), .int (nI p), .int d, .int w] S I J (fun v S' I' J' => v = some (.int (mpain I p d w)) ∧ S = S' ∧ q130 I I' ∧ J = J') := by
  have hT := hM.1
  have f1 := hM.r 0 rfl
  have g1 := hM.a 0 rfl
  have f2 := hM.r 1 rfl
  have g2 := hM.a 1 rfl
  have f7 := hM.r 6 rfl
  have g7 := hM.a 6 rfl
  have ecp : (nI p).toNatClampNeg = p := qcl (by omega)
  refine qMet.of (L := [some (.ref (qb E + 114)), some (.int (nI p)), some (.int d), some (.int w), none]) (by decide +kernel) (Nat.le_of_ble_eq_true rfl) rfl ?_
  refine lda_n_5_0 (pc := 0) d_Md_pain_0 ?_
  refine ldi_n_5_1 (pc := 1) d_Md_pain_1 ?_
  refine ldi_n_5_2 (pc := 2) d_Md_pain_2 ?_
  refine ldi_n_5_3 (pc := 3) d_Md_pain_3 ?_
  refine r_callV (pc := 4) (As := [.int (nI p), .int d, .int w]) (k := 9) (N := 56) (T := T_Md) k_Md_232 im_Md_sum se_Md_sum rfl (by decide) rfl (by decide) d_Md_pain_4 hT (c_Md_sum hM hI hh hp) rfl (Nat.le_of_ble_eq_true rfl) (by omega) (by omega) (by omega) (fun v S' K J' hq => ?_)
  obtain ⟨rfl, rfl, hK, rfl⟩ := hq
  have e1 : K 115 = I 115 := hK 115 (by decide)
  have e2 : K 116 = I 116 := hK 116 (by decide)
  have e7 : K 121 = I 121 := hK 121 (by decide)
  unfold mpain
  have fin : ∀ x, x = mpn I p (msum I p w d) d w → qW E y_Md_pain b_Md_pain (some .int) 3 0 0 (fun v S' I' J' => v = some (.int (qmax 0 (mpn I p (msum I p w d) d w))) ∧ S = S' ∧ q130 I I' ∧ J = J') 0 0 160 [some (.ref (qb E + 114)), some (.int (nI p)), some (.int d), some (.int w), some (.int x)] [] S K J := by
    intro x ex
    refine r_iconst (pc := 160) (v := 0) d_Md_pain_160 rfl ?_
    refine ldi_5_4 (pc := 161) d_Md_pain_161 ?_
    refine r_callS (pc := 163) (As := [.int 0, .int x]) k_Md_235 sw_jM_max rfl (by decide) d_Md_pain_163 (c_max 0 x) rfl (Nat.le_of_ble_eq_true rfl) (by omega) (by omega) (by omega) (fun v S' I' J' hq => ?_)
    obtain ⟨rfl, rfl, rfl, rfl⟩ := hq
    exact r_iret d_Md_pain_166 rfl (by omega) (by omega) (⟨by rw [ex], rfl, hK, rfl⟩)
  have h34 : ∀ x, x = (if w < I 116 p then msum I p w d / 2 else 2 * msum I p w d) → (I 115 p = 3 ∨ I 115 p = 6) → qW E y_Md_pain b_Md_pain (some .int) 3 0 0 (fun v S' I' J' => v = some (.int (qmax 0 (mpn I p (msum I p w d) d w))) ∧ S = S' ∧ q130 I I' ∧ J = J') 0 0 91 [some (.ref (qb E + 114)), some (.int (nI p)), some (.int d), some (.int w), some (.int (msum I p w d))] [.int x] S K J := by
    intro x ex hk
    refine sti_5_4 (pc := 91) d_Md_pain_91 rfl ?_
    refine lda_n_5_0 (pc := 93) d_Md_pain_93 ?_
    refine g_Md_9 (pc := 94) rfl d_Md_pain_94 (by assumption) (by assumption) ?_
    refine ldi_n_5_1 (pc := 97) d_Md_pain_97 ?_
    refine r_iald (pc := 98) d_Md_pain_98 (by assumption) (by first | assumption | exact vp_in_nI (by omega) (by omega) | (unfold vp_in; decide)) ?_
    rw [ecp, e1]
    refine r_bipush (pc := 99) (v := 6) d_Md_pain_99 rfl ?_
    refine r_icmp_ne (pc := 101) (tgt := 160) d_Md_pain_101 (by decide) (fun c => ?_) (fun c => ?_)
    · have h3 : I 115 p = 3 := hk.resolve_right c
      refine fin x ?_
      unfold mpn
      rw [h3, if_neg (by decide), if_neg (by decide), if_pos rfl, ex]
    · have hin : vp_in (4 * nI p + (d - d / 4 * 4)) 24 := by
        rw [hd, qday4 hdd, show (4 : Int32) = nI 4 from rfl, pk_mul, nI_add]
        exact vp_in_nI (by have := Nat.mod_lt dd (show 4 > 0 by decide); omega) (by decide)
      have ei : (4 * nI p + (d - d / 4 * 4)).toNatClampNeg = 4 * p + (d - d / 4 * 4).toNatClampNeg := by
        have h9 := Nat.mod_lt dd (show 4 > 0 by decide)
        rw [hd, qday4 hdd, qcl (n := dd % 4) (by omega), show (4 : Int32) = nI 4 from rfl, pk_mul, nI_add]
        exact qcl (by omega)
      refine ldi_5_4 (pc := 104) d_Md_pain_104 ?_
      refine lda_n_5_0 (pc := 106) d_Md_pain_106 ?_
      refine g_Md_30 (pc := 107) rfl d_Md_pain_107 (by assumption) (by assumption) ?_
      refine r_iconst (pc := 110) (v := 4) d_Md_pain_110 rfl ?_
      refine ldi_n_5_1 (pc := 111) d_Md_pain_111 ?_
      refine r_imul (pc := 112) d_Md_pain_112 ?_
      refine ldi_n_5_2 (pc := 113) d_Md_pain_113 ?_
      refine r_iconst (pc := 114) (v := 4) d_Md_pain_114 rfl ?_
      refine r_irem (pc := 115) d_Md_pain_115 (by decide) ?_
      refine r_iadd (pc := 116) d_Md_pain_116 ?_
      refine r_iald (pc := 117) d_Md_pain_117 (by assumption) (by first | assumption | exact vp_in_nI (by omega) (by omega) | (unfold vp_in; decide)) ?_
      rw [ei, e7]
      refine r_iadd (pc := 118) d_Md_pain_118 ?_
      refine sti_5_4 (pc := 119) d_Md_pain_119 rfl ?_
      refine r_goto (pc := 121) (tgt := 160) d_Md_pain_121 (by decide) ?_
      refine fin _ ?_
      unfold mpn
      rw [c, if_neg (by decide), if_neg (by decide), if_neg (by decide), if_neg (by decide), if_neg (by decide), if_pos rfl, ex]
  have h3 : (I 115 p = 3 ∨ I 115 p = 6) → qW E y_Md_pain b_Md_pain (some .int) 3 0 0 (fun v S' I' J' => v = some (.int (qmax 0 (mpn I p (msum I p w d) d w))) ∧ S = S' ∧ q130 I I' ∧ J = J') 0 0 70 [some (.ref (qb E + 114)), some (.int (nI p)), some (.int d), some (.int w), some (.int (msum I p w d))] [] S K J := by
    intro hk
    refine ldi_n_5_3 (pc := 70) d_Md_pain_70 ?_
    refine lda_n_5_0 (pc := 71) d_Md_pain_71 ?_
    refine g_Md_15 (pc := 72) rfl d_Md_pain_72 (by assumption) (by assumption) ?_
    refine ldi_n_5_1 (pc := 75) d_Md_pain_75 ?_
    refine r_iald (pc := 76) d_Md_pain_76 (by assumption) (by first | assumption | exact vp_in_nI (by omega) (by omega) | (unfold vp_in; decide)) ?_
    rw [ecp, e2]
    refine r_icmp_ge (pc := 77) (tgt := 87) d_Md_pain_77 (by decide) (fun c => ?_) (fun c => ?_)
    · refine r_iconst (pc := 87) (v := 2) d_Md_pain_87 rfl ?_
      refine ldi_5_4 (pc := 88) d_Md_pain_88 ?_
      refine r_imul (pc := 90) d_Md_pain_90 ?_
      exact h34 _ (by rw [if_neg (Int32.not_lt.mpr c)]) hk
    · refine ldi_5_4 (pc := 80) d_Md_pain_80 ?_
      refine r_iconst (pc := 82) (v := 2) d_Md_pain_82 rfl ?_
      refine r_idiv (pc := 83) d_Md_pain_83 (by decide) ?_
      refine r_goto (pc := 84) (tgt := 91) d_Md_pain_84 (by decide) ?_
      exact h34 _ (by rw [if_pos (Int32.not_le.mp c)]) hk
  refine sti_5_4 (pc := 7) d_Md_pain_7 rfl ?_
  refine lda_n_5_0 (pc := 9) d_Md_pain_9 ?_
  refine g_Md_9 (pc := 10) rfl d_Md_pain_10 (by assumption) (by assumption) ?_
  refine ldi_n_5_1 (pc := 13) d_Md_pain_13 ?_
  refine r_iald (pc := 14) d_Md_pain_14 (by assumption) (by first | assumption | exact vp_in_nI (by omega) (by omega) | (unfold vp_in; decide)) ?_
  rw [ecp, e1]
  by_cases k1 : I 115 p = 1
  · rw [k1]
    refine r_tableIn (pc := 15) (off := 37) (tgt := 52) d_Md_pain_15 (by decide) (by decide) (by decide +kernel) (by decide) ?_
    refine ldi_5_4 (pc := 52) d_Md_pain_52 ?_
    refine ldi_n_5_3 (pc := 54) d_Md_pain_54 ?_
    refine r_iadd (pc := 55) d_Md_pain_55 ?_
    refine sti_5_4 (pc := 56) d_Md_pain_56 rfl ?_
    refine r_goto (pc := 58) (tgt := 160) d_Md_pain_58 (by decide) ?_
    exact fin _ (by unfold mpn; rw [if_pos k1])
  by_cases k2 : I 115 p = 2
  · rw [k2]
    refine r_tableIn (pc := 15) (off := 46) (tgt := 61) d_Md_pain_15 (by decide) (by decide) (by decide +kernel) (by decide) ?_
    refine ldi_5_4 (pc := 61) d_Md_pain_61 ?_
    refine ldi_n_5_3 (pc := 63) d_Md_pain_63 ?_
    refine r_isub (pc := 64) d_Md_pain_64 ?_
    refine sti_5_4 (pc := 65) d_Md_pain_65 rfl ?_
    refine r_goto (pc := 67) (tgt := 160) d_Md_pain_67 (by decide) ?_
    exact fin _ (by unfold mpn; rw [if_neg k1, if_pos k2])
  by_cases k3 : I 115 p = 3
  · have h9 := h3 (Or.inl k3)
    rw [k3]
    refine r_tableIn (pc := 15) (off := 55) (tgt := 70) d_Md_pain_15 (by decide) (by decide) (by decide +kernel) (by decide) ?_
    exact h9
  by_cases k4 : I 115 p = 4
  · rw [k4]
    refine r_tableIn (pc := 15) (off := 109) (tgt := 124) d_Md_pain_15 (by decide) (by decide) (by decide +kernel) (by decide) ?_
    refine ldi_5_4 (pc := 124) d_Md_pain_124 ?_
    refine ldi_n_5_3 (pc := 126) d_Md_pain_126 ?_
    refine lda_n_5_0 (pc := 127) d_Md_pain_127 ?_
    refine g_Md_15 (pc := 128) rfl d_Md_pain_128 (by assumption) (by assumption) ?_
    refine ldi_n_5_1 (pc := 131) d_Md_pain_131 ?_
    refine r_iald (pc := 132) d_Md_pain_132 (by assumption) (by first | assumption | exact vp_in_nI (by omega) (by omega) | (unfold vp_in; decide)) ?_
    rw [ecp, e2]
    refine r_iadd (pc := 133) d_Md_pain_133 ?_
    refine r_iadd (pc := 134) d_Md_pain_134 ?_
    refine sti_5_4 (pc := 135) d_Md_pain_135 rfl ?_
    refine r_goto (pc := 137) (tgt := 160) d_Md_pain_137 (by decide) ?_
    exact fin _ (by unfold mpn; rw [if_neg k1, if_neg k2, if_neg k3, if_pos k4])
  by_cases k5 : I 115 p = 5
  · rw [k5]
    refine r_tableIn (pc := 15) (off := 125) (tgt := 140) d_Md_pain_15 (by decide) (by decide) (by decide +kernel) (by decide) ?_
    refine ldi_n_5_2 (pc := 140) d_Md_pain_140 ?_
    refine r_iconst (pc := 141) (v := 2) d_Md_pain_141 rfl ?_
    refine r_irem (pc := 142) d_Md_pain_142 (by decide) ?_
    refine r_iconst (pc := 143) (v := 1) d_Md_pain_143 rfl ?_
    refine r_icmp_ne (pc := 144) (tgt := 151) d_Md_pain_144 (by decide) (fun c => ?_) (fun c => ?_)
    · refine ldi_5_4 (pc := 151) d_Md_pain_151 ?_
      refine ldi_n_5_3 (pc := 153) d_Md_pain_153 ?_
      refine r_isub (pc := 154) d_Md_pain_154 ?_
      refine sti_5_4 (pc := 155) d_Md_pain_155 rfl ?_
      refine r_goto (pc := 157) (tgt := 160) d_Md_pain_157 (by decide) ?_
      exact fin _ (by unfold mpn; rw [if_neg k1, if_neg k2, if_neg k3, if_neg k4, if_pos k5, if_neg c])
    · refine r_iconst (pc := 147) (v := 0) d_Md_pain_147 rfl ?_
      refine r_goto (pc := 148) (tgt := 155) d_Md_pain_148 (by decide) ?_
      refine sti_5_4 (pc := 155) d_Md_pain_155 rfl ?_
      refine r_goto (pc := 157) (tgt := 160) d_Md_pain_157 (by decide) ?_
      exact fin _ (by unfold mpn; rw [if_neg k1, if_neg k2, if_neg k3, if_neg k4, if_pos k5, if_pos c])
  by_cases k6 : I 115 p = 6
  · have h9 := h3 (Or.inr k6)
    rw [k6]
    refine r_tableIn (pc := 15) (off := 55) (tgt := 70) d_Md_pain_15 (by decide) (by decide) (by decide +kernel) (by decide) ?_
    exact h9
  refine r_tableOut (pc := 15) (tgt := 160) d_Md_pain_15 (by simp only [← Int32.toInt_inj, Int32.reduceToInt] at k1 k2 k3 k4 k5 k6; omega) (by decide) ?_
  exact fin _ (by unfold mpn; rw [if_neg k1, if_neg k2, if_neg k3, if_neg k4, if_neg k5, if_neg k6])
theorem c_Md_goesDay {n c l dd : Nat} (hM : isMd S) (hI : mIs I n) (hh : mHo I n) (hc : I 114 0 = nI c) (hc6 : c ≤ 6) (hl : I 114 8 = nI l) (h6 : l ≤ 6) (hL : ∀ k, k < 6 → ∃ p, p < 6 ∧ I 122 k = nI p) (hd : I 114 10 = nI dd) (hdd : dd < 2 ^ 31) : qMet E y_Md_goesDay b_Md_goesDay 3 none 4 0 0 [.ref (qb E + 114)] S I J (fun v S' I' J' => v = none ∧ S = S' ∧ q130 (mgo1 I) I' ∧ J = J') := by
  have hT := hM.1
  have f4 := hM.r 3 rfl
  have g4 := hM.a 3 rfl
  have f5 := hM.r 4 rfl
  have g5 := hM.a 4 rfl
  have f6 := hM.r 5 rfl
  have g6 := hM.a 5 rfl
  have hone := mtod_in hl h6 hL
  refine qMet.of (L := [some (.ref (qb E + 114)), none, none]) (by decide +kernel) (Nat.le_of_ble_eq_true rfl) rfl ?_
  refine lda_n_3_0 (pc := 0) d_Md_goesDay_0 ?_
  refine r_callV (pc := 1) (As := []) (k := 9) (N := 56) (T := T_Md) k_Md_244 im_Md_todays se_Md_todays rfl (by decide) rfl (by decide) d_Md_goesDay_1 hT (c_Md_todays hM hI hh hl h6 hL) rfl (Nat.le_of_ble_eq_true rfl) (by omega) (by omega) (by omega) (fun v S' I' J' hq => ?_)
  obtain ⟨rfl, rfl, rfl, rfl⟩ := hq
  unfold mgo1
  rw [hc, qcl (n := c) (by omega)]
  generalize mtod I = one at *
  refine sti_n_3_1 (pc := 4) d_Md_goesDay_4 rfl ?_
  refine r_iconst (pc := 5) (v := 0) d_Md_goesDay_5 rfl ?_
  refine sti_n_3_2 (pc := 6) d_Md_goesDay_6 rfl ?_
  rw [q0]
  have key : ∀ k, k ≤ c → ∀ K, q130 (mgoPs I one k) K → qW E y_Md_goesDay b_Md_goesDay none 4 0 0 (fun v S' I' J' => v = none ∧ S = S' ∧ q130 (qup (if one = -5 then mgoPs I one c else qup (mgoPs I one c) 120 one.toNatClampNeg 1) 114 10 (I 114 10 + 1)) I' ∧ J = J') 0 0 7 [some (.ref (qb E + 114)), some (.int one), some (.int (nI k))] [] S K J := by
    refine qfor c ?_ ?_
    · intro K hK
      have e114 : K 114 = I 114 := by rw [hK 114 (by decide), mgoPs_row (by decide) (by decide)]
      refine ldi_n_3_2 (pc := 7) d_Md_goesDay_7 ?_
      refine lda_n_3_0 (pc := 8) d_Md_goesDay_8 ?_
      refine g_Md_117 (pc := 9) rfl d_Md_goesDay_9 (by assumption) ?_
      rw [e114, hc]
      refine r_icmp_ge (pc := 12) (tgt := 82) d_Md_goesDay_12 (by decide) (fun h => ?_) (fun h => ?_)
      · refine ldi_n_3_1 (pc := 82) d_Md_goesDay_82 ?_
        refine r_bipush (pc := 83) (v := (-5)) d_Md_goesDay_83 rfl ?_
        refine r_icmp_eq (pc := 85) (tgt := 95) d_Md_goesDay_85 (by decide) (fun h5 => ?_) (fun h5 => ?_)
        · rw [if_pos h5]
          refine lda_n_3_0 (pc := 95) d_Md_goesDay_95 ?_
          refine r_dup (pc := 96) d_Md_goesDay_96 rfl ?_
          refine g_Md_135 (pc := 97) rfl d_Md_goesDay_97 (by assumption) ?_
          refine r_iconst (pc := 100) (v := 1) d_Md_goesDay_100 rfl ?_
          refine r_iadd (pc := 101) d_Md_goesDay_101 ?_
          rw [e114]
          refine p_Md_135 (pc := 102) rfl d_Md_goesDay_102 (by assumption) ?_
          exact r_vret d_Md_goesDay_105 rfl (by omega) (by omega) (⟨rfl, rfl, hK.upp, rfl⟩)
        · rw [if_neg h5]
          obtain ⟨p, hp, rfl⟩ := hone.resolve_left h5
          have hin : vp_in (nI p) 6 := vp_in_nI hp (by omega)
          refine lda_n_3_0 (pc := 88) d_Md_goesDay_88 ?_
          refine g_Md_27 (pc := 89) rfl d_Md_goesDay_89 (by assumption) (by assumption) ?_
          refine ldi_n_3_1 (pc := 92) d_Md_goesDay_92 ?_
          refine r_iconst (pc := 93) (v := 1) d_Md_goesDay_93 rfl ?_
          refine r_iast (pc := 94) d_Md_goesDay_94 (by assumption) (by first | assumption | exact vp_in_nI (by omega) (by omega) | (unfold vp_in; decide)) ?_
          refine lda_n_3_0 (pc := 95) d_Md_goesDay_95 ?_
          refine r_dup (pc := 96) d_Md_goesDay_96 rfl ?_
          refine g_Md_135 (pc := 97) rfl d_Md_goesDay_97 (by assumption) ?_
          refine r_iconst (pc := 100) (v := 1) d_Md_goesDay_100 rfl ?_
          refine r_iadd (pc := 101) d_Md_goesDay_101 ?_
          rw [qup_o (by decide), e114]
          refine p_Md_135 (pc := 102) rfl d_Md_goesDay_102 (by assumption) ?_
          exact r_vret d_Md_goesDay_105 rfl (by omega) (by omega) (⟨rfl, rfl, hK.upp.upp, rfl⟩)
      · exact absurd (nI_le (Nat.le_refl c) (by omega)) h
    · intro k hk ih K hK
      have e114 : K 114 = I 114 := by rw [hK 114 (by decide), mgoPs_row (by decide) (by decide)]
      have ek : (nI k).toNatClampNeg = k := qcl (by omega)
      rw [mgoPs] at ih
      refine ldi_n_3_2 (pc := 7) d_Md_goesDay_7 ?_
      refine lda_n_3_0 (pc := 8) d_Md_goesDay_8 ?_
      refine g_Md_117 (pc := 9) rfl d_Md_goesDay_9 (by assumption) ?_
      rw [e114, hc]
      refine r_icmp_ge (pc := 12) (tgt := 82) d_Md_goesDay_12 (by decide) (fun h => ?_) (fun h => ?_)
      · exact absurd h (nI_ge hk (by omega))
      · refine ldi_n_3_2 (pc := 15) d_Md_goesDay_15 ?_
        refine ldi_n_3_1 (pc := 16) d_Md_goesDay_16 ?_
        refine r_icmp_eq (pc := 17) (tgt := 76) d_Md_goesDay_17 (by decide) (fun h1 => ?_) (fun h1 => ?_)
        · have e : mgoP (mgoPs I one k) one k = mgoPs I one k := by unfold mgoP; rw [if_pos h1]
          rw [e] at ih
          refine inc_3_2 (pc := 76) (w := 1) d_Md_goesDay_76 rfl rfl ?_
          refine r_goto (pc := 79) (tgt := 7) d_Md_goesDay_79 (by decide) ?_
          rw [q1]
          exact ih K hK
        · refine lda_n_3_0 (pc := 20) d_Md_goesDay_20 ?_
          refine g_Md_27 (pc := 21) rfl d_Md_goesDay_21 (by assumption) (by assumption) ?_
          refine ldi_n_3_2 (pc := 24) d_Md_goesDay_24 ?_
          refine r_iald (pc := 25) d_Md_goesDay_25 (by assumption) (by first | assumption | exact vp_in_nI (by omega) (by omega) | (unfold vp_in; decide)) ?_
          refine r_iconst (pc := 26) (v := 1) d_Md_goesDay_26 rfl ?_
          rw [ek, hK 120 (by decide)]
          refine r_icmp_ne (pc := 27) (tgt := 33) d_Md_goesDay_27 (by decide) (fun h2 => ?_) (fun h2 => ?_)
          · have e : mgoP (mgoPs I one k) one k = qup (qup (mgoPs I one k) 119 k (mgoPs I one k 119 k + mpain (mgoPs I one k) k (mgoPs I one k 114 10) (mgoPs I one k 118 k))) 118 k (qmin 99 (mgoPs I one k 118 k + 1)) := by unfold mgoP; rw [if_neg h1, if_neg h2]
            rw [e] at ih
            have i1 : mIs K n := hI.only (fun a ha => by rw [hK a (by omega), mgoPs_row (by omega) (by omega)])
            have i2 : mHo K n := by unfold mHo; rw [e114]; exact hh
            refine lda_n_3_0 (pc := 33) d_Md_goesDay_33 ?_
            refine g_Md_24 (pc := 34) rfl d_Md_goesDay_34 (by assumption) (by assumption) ?_
            refine ldi_n_3_2 (pc := 37) d_Md_goesDay_37 ?_
            refine r_dup2 (pc := 38) d_Md_goesDay_38 rfl rfl ?_
            refine r_iald (pc := 39) d_Md_goesDay_39 (by assumption) (by first | assumption | exact vp_in_nI (by omega) (by omega) | (unfold vp_in; decide)) ?_
            refine lda_n_3_0 (pc := 40) d_Md_goesDay_40 ?_
            refine ldi_n_3_2 (pc := 41) d_Md_goesDay_41 ?_
            refine lda_n_3_0 (pc := 42) d_Md_goesDay_42 ?_
            refine g_Md_135 (pc := 43) rfl d_Md_goesDay_43 (by assumption) ?_
            refine lda_n_3_0 (pc := 46) d_Md_goesDay_46 ?_
            refine g_Md_21 (pc := 47) rfl d_Md_goesDay_47 (by assumption) (by assumption) ?_
            refine ldi_n_3_2 (pc := 50) d_Md_goesDay_50 ?_
            refine r_iald (pc := 51) d_Md_goesDay_51 (by assumption) (by first | assumption | exact vp_in_nI (by omega) (by omega) | (unfold vp_in; decide)) ?_
            rw [ek, e114]
            refine r_callV (pc := 52) (As := [.int (nI k), .int (I 114 10), .int (K 118 k)]) (k := 9) (N := 56) (T := T_Md) k_Md_138 im_Md_pain se_Md_pain rfl (by decide) rfl (by decide) d_Md_goesDay_52 hT (c_Md_pain (dd := dd) hM i1 i2 (by omega) hd hdd) rfl (Nat.le_of_ble_eq_true rfl) (by omega) (by omega) (by omega) (fun v S' K2 J' hq => ?_)
            obtain ⟨rfl, rfl, hK2, rfl⟩ := hq
            rw [mpain_only hK]
            refine r_iadd (pc := 55) d_Md_goesDay_55 ?_
            refine r_iast (pc := 56) d_Md_goesDay_56 (by assumption) (by first | assumption | exact vp_in_nI (by omega) (by omega) | (unfold vp_in; decide)) ?_
            refine lda_n_3_0 (pc := 57) d_Md_goesDay_57 ?_
            refine g_Md_21 (pc := 58) rfl d_Md_goesDay_58 (by assumption) (by assumption) ?_
            refine ldi_n_3_2 (pc := 61) d_Md_goesDay_61 ?_
            refine r_bipush (pc := 62) (v := 99) d_Md_goesDay_62 rfl ?_
            refine lda_n_3_0 (pc := 64) d_Md_goesDay_64 ?_
            refine g_Md_21 (pc := 65) rfl d_Md_goesDay_65 (by assumption) (by assumption) ?_
            refine ldi_n_3_2 (pc := 68) d_Md_goesDay_68 ?_
            rw [ek]
            refine r_iald (pc := 69) d_Md_goesDay_69 (by assumption) (by first | assumption | exact vp_in_nI (by omega) (by omega) | (unfold vp_in; decide)) ?_
            refine r_iconst (pc := 70) (v := 1) d_Md_goesDay_70 rfl ?_
            refine r_iadd (pc := 71) d_Md_goesDay_71 ?_
            rw [ek, qup_o (by decide), hK2 118 (by decide), hK 118 (by decide), hK 119 (by decide)]
            refine r_callS (pc := 72) (As := [.int 99, .int (mgoPs I one k 118 k + 1)]) k_Md_247 sw_jM_min rfl (by decide) d_Md_goesDay_72 (c_min 99 _) rfl (Nat.le_of_ble_eq_true rfl) (by omega) (by omega) (by omega) (fun v S' I' J' hq => ?_)
            obtain ⟨rfl, rfl, rfl, rfl⟩ := hq
            refine r_iast (pc := 75) d_Md_goesDay_75 (by assumption) (by first | assumption | exact vp_in_nI (by omega) (by omega) | (unfold vp_in; decide)) ?_
            refine inc_3_2 (pc := 76) (w := 1) d_Md_goesDay_76 rfl rfl ?_
            refine r_goto (pc := 79) (tgt := 7) d_Md_goesDay_79 (by decide) ?_
            rw [ek, q1]
            have ed : mgoPs I one k 114 10 = I 114 10 := by rw [mgoPs_row (by decide) (by decide)]
            rw [ed] at ih
            exact ih _ (q130.upp (q130.upp (qOnly.tr hK hK2)))
          · have e : mgoP (mgoPs I one k) one k = mgoPs I one k := by unfold mgoP; rw [if_neg h1, if_pos h2]
            rw [e] at ih
            refine r_goto (pc := 30) (tgt := 76) d_Md_goesDay_30 (by decide) ?_
            refine inc_3_2 (pc := 76) (w := 1) d_Md_goesDay_76 rfl rfl ?_
            refine r_goto (pc := 79) (tgt := 7) d_Md_goesDay_79 (by decide) ?_
            rw [q1]
            exact ih K hK
  exact key 0 (by omega) I qOnly.rf
end G4
