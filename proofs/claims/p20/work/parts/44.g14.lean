/-! the reference: of, the image, undo, taken, looked at, tapes -/
def mupN : Nat → Nat → Int32 → Nat
  | 0, k, _ => k
  | f + 1, k, x => if nI k = x then k else if k = 0 then 0 else mupN f (if k = 4 then 1 else if k = 5 then 2 else if k = 6 then 3 else 0) x
def mfil (J : qJ) (t k : Nat) : qJ := fun a j => if a = 147 ∧ 60 * t ≤ j ∧ j < 60 * t + k then 0 else J a j
theorem mfil_0 {J : qJ} {t : Nat} : mfil J t 0 = J := by funext a j; unfold mfil; rw [if_neg (by omega)]
theorem mfil_s {J : qJ} {t k : Nat} : qup (mfil J t k) 147 (60 * t + k) 0 = mfil J t (k + 1) := by
  funext a j
  unfold qup mfil
  by_cases h : a = 147 ∧ j = 60 * t + k
  · rw [if_pos h, if_pos (by omega)]
  · rw [if_neg h]
    by_cases h2 : a = 147 ∧ 60 * t ≤ j ∧ j < 60 * t + k
    · rw [if_pos h2, if_pos (by omega)]
    · rw [if_neg h2, if_neg (by omega)]
section G14
variable {E : qE} {S : qSh} {I : qI} {J : qJ}
theorem c_Md_of {x w : Int32} (hM : isMd S) (h : mDay I 9999) : qMet E y_Md_of b_Md_of 3 (some .int) 4 0 0 [.ref (qb E + 114), .int x, .int w] S I J (qAsk S I J) := by
  have hT := hM.1
  have f1 := hM.r 0 rfl
  have g1 := hM.a 0 rfl
  have f2 := hM.r 1 rfl
  have g2 := hM.a 1 rfl
  have f3 := hM.r 2 rfl
  have g3 := hM.a 2 rfl
  have f4 := hM.r 3 rfl
  have g4 := hM.a 3 rfl
  have f5 := hM.r 4 rfl
  have g5 := hM.a 4 rfl
  have f6 := hM.r 5 rfl
  have g6 := hM.a 5 rfl
  obtain ⟨⟨n, i1, i2⟩, ⟨c, c6, hc⟩, ⟨l, l6, hl⟩, hL, d0, hd9, hd0⟩ := id h
  refine qMet.of (L := [some (.ref (qb E + 114)), some (.int x), some (.int w)]) (by decide +kernel) (Nat.le_of_ble_eq_true rfl) rfl ?_
  refine lda_n_3_0 (pc := 0) d_Md_of_0 ?_
  refine ldi_n_3_1 (pc := 1) d_Md_of_1 ?_
  refine r_callV (pc := 2) (As := [.int x]) (k := 9) (N := 56) (T := T_Md) k_Md_127 im_Md_isOne se_Md_isOne rfl (by decide) rfl (by decide) d_Md_of_2 hT (c_Md_isOne hM) rfl (Nat.le_of_ble_eq_true rfl) (by omega) (by omega) (by omega) (fun v S' I' J' hq => ?_)
  obtain ⟨rfl, rfl, rfl, rfl⟩ := hq
  rw [hc]
  refine r_if_ne (pc := 5) (tgt := 10) d_Md_of_5 (by decide) (fun c1 => ?_) (fun c1 => ?_)
  · obtain ⟨p, hp, rfl⟩ := qisM_y (by omega) c1
    have hin : vp_in (nI p) 6 := vp_in_nI (by omega) (by omega)
    refine ldi_n_3_2 (pc := 10) d_Md_of_10 ?_
    by_cases k0 : w = 0
    · rw [k0]
      refine r_tableIn (pc := 11) (off := 45) (tgt := 56) d_Md_of_11 (by decide) (by decide) (by decide +kernel) (by decide) ?_
      refine lda_n_3_0 (pc := 56) d_Md_of_56 ?_
      refine g_Md_9 (pc := 57) rfl d_Md_of_57 (by assumption) (by assumption) ?_
      refine ldi_n_3_1 (pc := 60) d_Md_of_60 ?_
      refine r_iald (pc := 61) d_Md_of_61 (by assumption) (by first | assumption | exact vp_in_nI (by omega) (by omega) | (unfold vp_in; decide)) ?_
      exact r_iret d_Md_of_62 rfl (by omega) (by omega) (⟨_, rfl, rfl, mSame.rf, rfl⟩)
    by_cases k1 : w = 1
    · rw [k1]
      refine r_tableIn (pc := 11) (off := 52) (tgt := 63) d_Md_of_11 (by decide) (by decide) (by decide +kernel) (by decide) ?_
      refine lda_n_3_0 (pc := 63) d_Md_of_63 ?_
      refine g_Md_15 (pc := 64) rfl d_Md_of_64 (by assumption) (by assumption) ?_
      refine ldi_n_3_1 (pc := 67) d_Md_of_67 ?_
      refine r_iald (pc := 68) d_Md_of_68 (by assumption) (by first | assumption | exact vp_in_nI (by omega) (by omega) | (unfold vp_in; decide)) ?_
      exact r_iret d_Md_of_69 rfl (by omega) (by omega) (⟨_, rfl, rfl, mSame.rf, rfl⟩)
    by_cases k2 : w = 2
    · rw [k2]
      refine r_tableIn (pc := 11) (off := 59) (tgt := 70) d_Md_of_11 (by decide) (by decide) (by decide +kernel) (by decide) ?_
      refine lda_n_3_0 (pc := 70) d_Md_of_70 ?_
      refine g_Md_18 (pc := 71) rfl d_Md_of_71 (by assumption) (by assumption) ?_
      refine ldi_n_3_1 (pc := 74) d_Md_of_74 ?_
      refine r_iald (pc := 75) d_Md_of_75 (by assumption) (by first | assumption | exact vp_in_nI (by omega) (by omega) | (unfold vp_in; decide)) ?_
      exact r_iret d_Md_of_76 rfl (by omega) (by omega) (⟨_, rfl, rfl, mSame.rf, rfl⟩)
    by_cases k3 : w = 3
    · rw [k3]
      refine r_tableIn (pc := 11) (off := 66) (tgt := 77) d_Md_of_11 (by decide) (by decide) (by decide +kernel) (by decide) ?_
      refine lda_n_3_0 (pc := 77) d_Md_of_77 ?_
      refine g_Md_21 (pc := 78) rfl d_Md_of_78 (by assumption) (by assumption) ?_
      refine ldi_n_3_1 (pc := 81) d_Md_of_81 ?_
      refine r_iald (pc := 82) d_Md_of_82 (by assumption) (by first | assumption | exact vp_in_nI (by omega) (by omega) | (unfold vp_in; decide)) ?_
      exact r_iret d_Md_of_83 rfl (by omega) (by omega) (⟨_, rfl, rfl, mSame.rf, rfl⟩)
    by_cases k4 : w = 4
    · rw [k4]
      refine r_tableIn (pc := 11) (off := 73) (tgt := 84) d_Md_of_11 (by decide) (by decide) (by decide +kernel) (by decide) ?_
      refine lda_n_3_0 (pc := 84) d_Md_of_84 ?_
      refine g_Md_24 (pc := 85) rfl d_Md_of_85 (by assumption) (by assumption) ?_
      refine ldi_n_3_1 (pc := 88) d_Md_of_88 ?_
      refine r_iald (pc := 89) d_Md_of_89 (by assumption) (by first | assumption | exact vp_in_nI (by omega) (by omega) | (unfold vp_in; decide)) ?_
      exact r_iret d_Md_of_90 rfl (by omega) (by omega) (⟨_, rfl, rfl, mSame.rf, rfl⟩)
    by_cases k5 : w = 5
    · rw [k5]
      refine r_tableIn (pc := 11) (off := 80) (tgt := 91) d_Md_of_11 (by decide) (by decide) (by decide +kernel) (by decide) ?_
      refine lda_n_3_0 (pc := 91) d_Md_of_91 ?_
      refine g_Md_27 (pc := 92) rfl d_Md_of_92 (by assumption) (by assumption) ?_
      refine ldi_n_3_1 (pc := 95) d_Md_of_95 ?_
      refine r_iald (pc := 96) d_Md_of_96 (by assumption) (by first | assumption | exact vp_in_nI (by omega) (by omega) | (unfold vp_in; decide)) ?_
      exact r_iret d_Md_of_97 rfl (by omega) (by omega) (⟨_, rfl, rfl, mSame.rf, rfl⟩)
    by_cases k6 : w = 6
    · rw [k6]
      refine r_tableIn (pc := 11) (off := 87) (tgt := 98) d_Md_of_11 (by decide) (by decide) (by decide +kernel) (by decide) ?_
      refine lda_n_3_0 (pc := 98) d_Md_of_98 ?_
      refine ldi_n_3_1 (pc := 99) d_Md_of_99 ?_
      refine r_callV (pc := 100) (As := [.int (nI p)]) (k := 9) (N := 56) (T := T_Md) k_Md_131 im_Md_placeOf se_Md_placeOf rfl (by decide) rfl (by decide) d_Md_of_100 hT (c_Md_placeOf hM hl l6) rfl (Nat.le_of_ble_eq_true rfl) (by omega) (by omega) (by omega) (fun v S' I' J' hq => ?_)
      obtain ⟨rfl, rfl, rfl, rfl⟩ := hq
      exact r_iret d_Md_of_103 rfl (by omega) (by omega) (⟨_, rfl, rfl, mSame.rf, rfl⟩)
    by_cases k7 : w = 7
    · rw [k7]
      refine r_tableIn (pc := 11) (off := 93) (tgt := 104) d_Md_of_11 (by decide) (by decide) (by decide +kernel) (by decide) ?_
      refine lda_n_3_0 (pc := 104) d_Md_of_104 ?_
      refine ldi_n_3_1 (pc := 105) d_Md_of_105 ?_
      refine lda_n_3_0 (pc := 106) d_Md_of_106 ?_
      refine g_Md_135 (pc := 107) rfl d_Md_of_107 (by assumption) ?_
      refine lda_n_3_0 (pc := 110) d_Md_of_110 ?_
      refine g_Md_21 (pc := 111) rfl d_Md_of_111 (by assumption) (by assumption) ?_
      refine ldi_n_3_1 (pc := 114) d_Md_of_114 ?_
      refine r_iald (pc := 115) d_Md_of_115 (by assumption) (by first | assumption | exact vp_in_nI (by omega) (by omega) | (unfold vp_in; decide)) ?_
      rw [hd0]
      refine r_callV (pc := 116) (As := [_, _, _]) (k := 9) (N := 56) (T := T_Md) k_Md_138 im_Md_pain se_Md_pain rfl (by decide) rfl (by decide) d_Md_of_116 hT (c_Md_pain (dd := d0) hM i1 i2 (show p < 6 by omega) rfl (by omega)) rfl (Nat.le_of_ble_eq_true rfl) (by omega) (by omega) (by omega) (fun v S' I' J' hq => ?_)
      obtain ⟨rfl, rfl, hg, rfl⟩ := hq
      exact r_iret d_Md_of_119 rfl (by omega) (by omega) (⟨_, rfl, rfl, mSame.q130 hg, rfl⟩)
    refine r_tableOut (pc := 11) (tgt := 120) d_Md_of_11 (by simp only [← Int32.toInt_inj, Int32.reduceToInt] at k0 k1 k2 k3 k4 k5 k6 k7; omega) (by decide) ?_
    refine r_iconst (pc := 120) (v := (-1)) d_Md_of_120 rfl ?_
    exact r_iret d_Md_of_121 rfl (by omega) (by omega) (⟨_, rfl, rfl, mSame.rf, rfl⟩)
  · refine r_iconst (pc := 8) (v := (-1)) d_Md_of_8 rfl ?_
    exact r_iret d_Md_of_9 rfl (by omega) (by omega) (⟨_, rfl, rfl, mSame.rf, rfl⟩)
theorem c_Md_image (hM : isMd S) : qMet E y_Md_image b_Md_image 1 (some .int) 1 0 0 [.ref (qb E + 114)] S I J (fun v S' I' J' => v = some (.int (I 114 0)) ∧ S = S' ∧ qOnly (fun a => a = 139) (qup I 114 39 1) I' ∧ (∀ j, j < 124 → I' 139 j = kp I j) ∧ J = J') := by
  have hT := hM.1
  have f40 := hM.r 24 rfl
  have g40 := hM.a 24 rfl
  refine qMet.of (L := [some (.ref (qb E + 114))]) (by decide +kernel) (Nat.le_of_ble_eq_true rfl) rfl ?_
  refine lda_n_1_0 (pc := 0) d_Md_image_0 ?_
  refine r_iconst (pc := 1) (v := 1) d_Md_image_1 rfl ?_
  refine p_Md_339 (pc := 2) rfl d_Md_image_2 (by assumption) (by first | exact Or.inl rfl | exact Or.inr rfl | assumption) ?_
  refine lda_n_1_0 (pc := 5) d_Md_image_5 ?_
  refine lda_n_1_0 (pc := 6) d_Md_image_6 ?_
  refine g_Md_85 (pc := 7) rfl d_Md_image_7 (by assumption) (by assumption) ?_
  refine r_callV (pc := 10) (As := [.ref (qb E + 139)]) (k := 9) (N := 56) (T := T_Md) k_Md_265 im_Md_keep se_Md_keep rfl (by decide) rfl (by decide) d_Md_image_10 hT (c_Md_keep hM g40 n139) rfl (Nat.le_of_ble_eq_true rfl) (by omega) (by omega) (by omega) (fun v S' I2 J' hq => ?_)
  obtain ⟨rfl, rfl, ⟨k1, k2⟩, rfl⟩ := hq
  have e0 : I2 114 0 = I 114 0 := by rw [k1 114 (by decide), qup_j (by decide)]
  have ek : ∀ j, j < 124 → kp (qup I 114 39 1) j = kp I j := by
    intro j hj
    unfold kp
    refine qup_ne (fun q => ?_)
    have key : ∀ i, i < 124 → ¬ ((kpa i).1 = 114 ∧ (kpa i).2 = 39) := by decide +kernel
    exact key j hj q
  refine lda_n_1_0 (pc := 13) d_Md_image_13 ?_
  refine g_Md_117 (pc := 14) rfl d_Md_image_14 (by assumption) ?_
  rw [e0]
  exact r_iret d_Md_image_17 rfl (by omega) (by omega) (⟨rfl, rfl, k1, fun j hj => by rw [k2 j hj, ek j hj], rfl⟩)
theorem c_Md_undo (hM : isMd S) : qMet E y_Md_undo b_Md_undo 1 (some .int) 1 0 0 [.ref (qb E + 114)] S I J (fun v S' I' J' => S = S' ∧ J = J' ∧ (I 114 39 = 0 ∧ v = some (.int (-3)) ∧ I = I' ∨ ¬ I 114 39 = 0 ∧ v = some (.int (I 139 117)) ∧ qOnly kpc I I' ∧ (∀ j, j ≠ 0 → j ≠ 8 → j ≠ 10 → j ≠ 27 → j ≠ 31 → j ≠ 34 → j ≠ 18 → I' 114 j = I 114 j) ∧ ∀ j, j < 124 → kp I' j = I 139 j)) := by
  have hT := hM.1
  have f40 := hM.r 24 rfl
  have g40 := hM.a 24 rfl
  refine qMet.of (L := [some (.ref (qb E + 114))]) (by decide +kernel) (Nat.le_of_ble_eq_true rfl) rfl ?_
  refine lda_n_1_0 (pc := 0) d_Md_undo_0 ?_
  refine g_Md_339 (pc := 1) rfl d_Md_undo_1 (by assumption) ?_
  refine r_if_ne (pc := 4) (tgt := 10) d_Md_undo_4 (by decide) (fun c => ?_) (fun c => ?_)
  · refine lda_n_1_0 (pc := 10) d_Md_undo_10 ?_
    refine lda_n_1_0 (pc := 11) d_Md_undo_11 ?_
    refine g_Md_85 (pc := 12) rfl d_Md_undo_12 (by assumption) (by assumption) ?_
    refine r_callV (pc := 15) (As := [.ref (qb E + 139)]) (k := 9) (N := 56) (T := T_Md) k_Md_269 im_Md_again se_Md_again rfl (by decide) rfl (by decide) d_Md_undo_15 hT (c_Md_again hM g40 n139) rfl (Nat.le_of_ble_eq_true rfl) (by omega) (by omega) (by omega) (fun v S' I2 J' hq => ?_)
    obtain ⟨rfl, rfl, ⟨b1, b2, b3⟩, rfl⟩ := hq
    have e0 : I2 114 0 = I 139 117 := b3 117 (by decide)
    refine lda_n_1_0 (pc := 18) d_Md_undo_18 ?_
    refine g_Md_117 (pc := 19) rfl d_Md_undo_19 (by assumption) ?_
    rw [e0]
    exact r_iret d_Md_undo_22 rfl (by omega) (by omega) (⟨rfl, rfl, Or.inr ⟨c, rfl, b1, b2, b3⟩⟩)
  · refine r_bipush (pc := 7) (v := (-3)) d_Md_undo_7 rfl ?_
    exact r_iret d_Md_undo_9 rfl (by omega) (by omega) (⟨rfl, rfl, Or.inl ⟨c, rfl, rfl⟩⟩)
theorem c_Md_taken {c : Nat} {m x : Int32} (hM : isMd S) (hc : I 114 0 = nI c) (c6 : c ≤ 6) (hK : ∀ p, p < 6 → ∃ k, k < 7 ∧ I 115 p = nI k) : qMet E y_Md_taken b_Md_taken 4 (some .int) 2 0 0 [.ref (qb E + 114), .int m, .int x] S I J (fun r S' I' J' => S = S' ∧ I = I' ∧ J = J' ∧ (qwithin x 0 6 = 0 ∧ r = some (.int (-2)) ∨ ¬ qwithin x 0 6 = 0 ∧ (∀ p, p < c → m ≠ nI p) ∧ r = some (.int (-11)) ∨ ¬ qwithin x 0 6 = 0 ∧ ∃ p k, p < c ∧ m = nI p ∧ k < 7 ∧ I 115 p = nI k ∧ r = some (.int (if nI (mupN 7 k x) = x then nI k else -12)))) := by
  have hT := hM.1
  have f1 := hM.r 0 rfl
  have g1 := hM.a 0 rfl
  refine qMet.of (L := [some (.ref (qb E + 114)), some (.int m), some (.int x), none]) (by decide +kernel) (Nat.le_of_ble_eq_true rfl) rfl ?_
  refine ldi_n_4_2 (pc := 0) d_Md_taken_0 ?_
  refine r_iconst (pc := 1) (v := 0) d_Md_taken_1 rfl ?_
  refine r_bipush (pc := 2) (v := 6) d_Md_taken_2 rfl ?_
  refine r_callS (pc := 4) (As := [.int x, .int 0, .int 6]) k_Md_120 sw_Md_within rfl (by decide) d_Md_taken_4 (c_Md_within x 0 6) rfl (Nat.le_of_ble_eq_true rfl) (by omega) (by omega) (by omega) (fun v S' I' J' hq => ?_)
  obtain ⟨rfl, rfl, rfl, rfl⟩ := hq
  refine r_if_ne (pc := 7) (tgt := 13) d_Md_taken_7 (by decide) (fun c1 => ?_) (fun c1 => ?_)
  · refine lda_n_4_0 (pc := 13) d_Md_taken_13 ?_
    refine ldi_n_4_1 (pc := 14) d_Md_taken_14 ?_
    refine r_callV (pc := 15) (As := [.int m]) (k := 9) (N := 56) (T := T_Md) k_Md_127 im_Md_isOne se_Md_isOne rfl (by decide) rfl (by decide) d_Md_taken_15 hT (c_Md_isOne hM) rfl (Nat.le_of_ble_eq_true rfl) (by omega) (by omega) (by omega) (fun v S' I' J' hq => ?_)
    obtain ⟨rfl, rfl, rfl, rfl⟩ := hq
    rw [hc]
    refine r_if_ne (pc := 18) (tgt := 24) d_Md_taken_18 (by decide) (fun c2 => ?_) (fun c2 => ?_)
    · obtain ⟨p, hp, rfl⟩ := qisM_y (by omega) c2
      obtain ⟨k, hk, ek⟩ := hK p (by omega)
      have ep : (nI p).toNatClampNeg = p := qcl (by omega)
      have hin : vp_in (nI p) 6 := vp_in_nI (by omega) (by omega)
      refine lda_n_4_0 (pc := 24) d_Md_taken_24 ?_
      refine g_Md_9 (pc := 25) rfl d_Md_taken_25 (by assumption) (by assumption) ?_
      refine ldi_n_4_1 (pc := 28) d_Md_taken_28 ?_
      refine r_iald (pc := 29) d_Md_taken_29 (by assumption) (by first | assumption | exact vp_in_nI (by omega) (by omega) | (unfold vp_in; decide)) ?_
      rw [ep, ek]
      refine sti_n_4_3 (pc := 30) d_Md_taken_30 rfl ?_
      have lp : ∀ (f : Nat) (u : Nat), u < 7 → (u = 0 → 0 < f) → (u = 1 ∨ u = 2 ∨ u = 3 → 1 < f) → (3 < u → 2 < f) → mupN f u x = mupN 7 k x → qW E y_Md_taken b_Md_taken (some .int) 2 0 0 (fun r S' I' J' => S = S' ∧ I = I' ∧ J = J' ∧ (qwithin x 0 6 = 0 ∧ r = some (.int (-2)) ∨ ¬ qwithin x 0 6 = 0 ∧ (∀ p_1, p_1 < c → nI p ≠ nI p_1) ∧ r = some (.int (-11)) ∨ ¬ qwithin x 0 6 = 0 ∧ ∃ p_1 k, p_1 < c ∧ nI p = nI p_1 ∧ k < 7 ∧ I 115 p_1 = nI k ∧ r = some (.int (if nI (mupN 7 k x) = x then nI k else -12)))) 0 0 31 [some (.ref (qb E + 114)), some (.int (nI p)), some (.int x), some (.int (nI u))] [] S I J := by
        intro f
        induction f with
        | zero => intro u hu h0 h1 h2 _; exact absurd (show u = 0 ∨ (u = 1 ∨ u = 2 ∨ u = 3) ∨ 3 < u by omega) (by omega)
        | succ f ih =>
          intro u hu h0 h1 h2 he
          rw [mupN] at he
          refine ldi_n_4_3 (pc := 31) d_Md_taken_31 ?_
          refine ldi_n_4_2 (pc := 32) d_Md_taken_32 ?_
          refine r_icmp_eq (pc := 33) (tgt := 48) d_Md_taken_33 (by decide) (fun c3 => ?_) (fun c3 => ?_)
          · rw [if_pos c3] at he
            refine ldi_n_4_3 (pc := 48) d_Md_taken_48 ?_
            refine ldi_n_4_2 (pc := 49) d_Md_taken_49 ?_
            refine r_icmp_ne (pc := 50) (tgt := 62) d_Md_taken_50 (by decide) (fun c4 => ?_) (fun c4 => ?_)
            · exact absurd c3 c4
            · refine lda_n_4_0 (pc := 53) d_Md_taken_53 ?_
              refine g_Md_9 (pc := 54) rfl d_Md_taken_54 (by assumption) (by assumption) ?_
              refine ldi_n_4_1 (pc := 57) d_Md_taken_57 ?_
              refine r_iald (pc := 58) d_Md_taken_58 (by assumption) (by first | assumption | exact vp_in_nI (by omega) (by omega) | (unfold vp_in; decide)) ?_
              rw [ep, ek]
              refine r_goto (pc := 59) (tgt := 64) d_Md_taken_59 (by decide) ?_
              exact r_iret d_Md_taken_64 rfl (by omega) (by omega) (⟨rfl, rfl, rfl, Or.inr (Or.inr ⟨c1, p, k, hp, rfl, hk, ek, by rw [← he, if_pos c3]⟩)⟩)
          · rw [if_neg c3] at he
            refine ldi_n_4_3 (pc := 36) d_Md_taken_36 ?_
            refine r_if_le (pc := 37) (tgt := 48) d_Md_taken_37 (by decide) (fun c4 => ?_) (fun c4 => ?_)
            · have u0 : u = 0 := by
                rcases Nat.eq_zero_or_pos u with q | q
                · exact q
                · exact absurd c4 (nI_nle q (by omega))
              subst u0
              rw [if_pos rfl] at he
              refine ldi_n_4_3 (pc := 48) d_Md_taken_48 ?_
              refine ldi_n_4_2 (pc := 49) d_Md_taken_49 ?_
              refine r_icmp_ne (pc := 50) (tgt := 62) d_Md_taken_50 (by decide) (fun c5 => ?_) (fun c5 => ?_)
              · refine r_bipush (pc := 62) (v := (-12)) d_Md_taken_62 rfl ?_
                exact r_iret d_Md_taken_64 rfl (by omega) (by omega) (⟨rfl, rfl, rfl, Or.inr (Or.inr ⟨c1, p, k, hp, rfl, hk, ek, by rw [← he, if_neg c3]⟩)⟩)
              · exact absurd c5 c3
            · have u0 : ¬ u = 0 := fun e => c4 (by rw [e]; decide)
              rw [if_neg u0] at he
              refine ldi_n_4_3 (pc := 40) d_Md_taken_40 ?_
              refine r_callS (pc := 41) (As := [.int (nI u)]) k_Md_352 sw_Md_above rfl (by decide) d_Md_taken_41 (c_Md_above hu) rfl (Nat.le_of_ble_eq_true rfl) (by omega) (by omega) (by omega) (fun v S' I' J' hq => ?_)
              obtain ⟨rfl, rfl, rfl, rfl⟩ := hq
              refine sti_n_4_3 (pc := 44) d_Md_taken_44 rfl ?_
              refine r_goto (pc := 45) (tgt := 31) d_Md_taken_45 (by decide) ?_
              refine ih _ ?_ ?_ ?_ ?_ he
              · split
                · omega
                · split
                  · omega
                  · split <;> omega
              · intro e; omega
              · intro e
                by_cases q : 3 < u
                · omega
                · exfalso
                  rw [if_neg (by omega), if_neg (by omega), if_neg (by omega)] at e
                  omega
              · intro e
                exfalso
                revert e
                split
                · omega
                · split
                  · omega
                  · split <;> omega
      exact lp 7 k hk (by omega) (by omega) (by omega) rfl
    · refine r_bipush (pc := 21) (v := (-11)) d_Md_taken_21 rfl ?_
      exact r_iret d_Md_taken_23 rfl (by omega) (by omega) (⟨rfl, rfl, rfl, Or.inr (Or.inl ⟨c1, qisM_n (by omega) c2, rfl⟩)⟩)
  · refine r_bipush (pc := 10) (v := (-2)) d_Md_taken_10 rfl ?_
    exact r_iret d_Md_taken_12 rfl (by omega) (by omega) (⟨rfl, rfl, rfl, Or.inl ⟨c1, rfl⟩⟩)
theorem c_Md_looked {z : Nat} (hM : isMd S) (hz : I 114 34 = nI z) (hz8 : z ≤ 8) (hB : ∀ i, i < 8 → ∃ p, p < 6 ∧ I 136 i = nI p) : qMet E y_Md_looked b_Md_looked 2 (some .int) 0 0 0 [.ref (qb E + 114)] S I J (qAsk S I J) := by
  have hT := hM.1
  have f5 := hM.r 4 rfl
  have g5 := hM.a 4 rfl
  have f35 := hM.r 21 rfl
  have g35 := hM.a 21 rfl
  have f36 := hM.r 22 rfl
  have g36 := hM.a 22 rfl
  refine qMet.of (L := [some (.ref (qb E + 114)), none]) (by decide +kernel) (Nat.le_of_ble_eq_true rfl) rfl ?_
  refine r_iconst (pc := 0) (v := 0) d_Md_looked_0 rfl ?_
  refine sti_n_2_1 (pc := 1) d_Md_looked_1 rfl ?_
  rw [q0]
  have key : ∀ k, k ≤ z → qW E y_Md_looked b_Md_looked (some .int) 0 0 0 (qAsk S I J) 0 0 2 [some (.ref (qb E + 114)), some (.int (nI k))] [] S I J := by
    refine qfor z ?_ ?_
    · refine ldi_n_2_1 (pc := 2) d_Md_looked_2 ?_
      refine lda_n_2_0 (pc := 3) d_Md_looked_3 ?_
      refine g_Md_336 (pc := 4) rfl d_Md_looked_4 (by assumption) ?_
      rw [hz]
      refine r_icmp_ge (pc := 7) (tgt := 38) d_Md_looked_7 (by decide) (fun cc => ?_) (fun cc => ?_)
      · refine r_bipush (pc := 38) (v := (-5)) d_Md_looked_38 rfl ?_
        exact r_iret d_Md_looked_40 rfl (by omega) (by omega) (⟨_, rfl, rfl, mSame.rf, rfl⟩)
      · exact absurd (nI_le (Nat.le_refl z) (by omega)) cc
    · intro k hk ih
      obtain ⟨p, hp, ep⟩ := hB k (by omega)
      have hin : vp_in (nI p) 6 := vp_in_nI hp (by omega)
      refine ldi_n_2_1 (pc := 2) d_Md_looked_2 ?_
      refine lda_n_2_0 (pc := 3) d_Md_looked_3 ?_
      refine g_Md_336 (pc := 4) rfl d_Md_looked_4 (by assumption) ?_
      rw [hz]
      refine r_icmp_ge (pc := 7) (tgt := 38) d_Md_looked_7 (by decide) (fun cc => ?_) (fun cc => ?_)
      · exact absurd cc (nI_ge hk (by omega))
      · refine lda_n_2_0 (pc := 10) d_Md_looked_10 ?_
        refine g_Md_24 (pc := 11) rfl d_Md_looked_11 (by assumption) (by assumption) ?_
        refine lda_n_2_0 (pc := 14) d_Md_looked_14 ?_
        refine g_Md_76 (pc := 15) rfl d_Md_looked_15 (by assumption) (by assumption) ?_
        refine ldi_n_2_1 (pc := 18) d_Md_looked_18 ?_
        refine r_iald (pc := 19) d_Md_looked_19 (by assumption) (by first | assumption | exact vp_in_nI (by omega) (by omega) | (unfold vp_in; decide)) ?_
        rw [qcl (n := k) (by omega), ep]
        refine r_iald (pc := 20) d_Md_looked_20 (by assumption) (by first | assumption | exact vp_in_nI (by omega) (by omega) | (unfold vp_in; decide)) ?_
        refine lda_n_2_0 (pc := 21) d_Md_looked_21 ?_
        refine g_Md_79 (pc := 22) rfl d_Md_looked_22 (by assumption) (by assumption) ?_
        refine ldi_n_2_1 (pc := 25) d_Md_looked_25 ?_
        refine r_iald (pc := 26) d_Md_looked_26 (by assumption) (by first | assumption | exact vp_in_nI (by omega) (by omega) | (unfold vp_in; decide)) ?_
        refine r_icmp_eq (pc := 27) (tgt := 32) d_Md_looked_27 (by decide) (fun c2 => ?_) (fun c2 => ?_)
        · refine inc_2_1 (pc := 32) (w := 1) d_Md_looked_32 rfl rfl ?_
          refine r_goto (pc := 35) (tgt := 2) d_Md_looked_35 (by decide) ?_
          rw [q1]
          exact ih
        · refine ldi_n_2_1 (pc := 30) d_Md_looked_30 ?_
          exact r_iret d_Md_looked_31 rfl (by omega) (by omega) (⟨_, rfl, rfl, mSame.rf, rfl⟩)
  exact key 0 (by omega)
theorem c_Md_tape {tp s n : Int32} (hM : isMd S) : qMet E y_Md_tape b_Md_tape 5 (some .int) 2 0 0 [.ref (qb E + 114), .int tp, .int s, .int n] S I J (fun r S' I' J' => S = S' ∧ (qwithin tp 0 5 = 0 ∧ r = some (.int (-1)) ∧ I = I' ∧ J = J' ∨ ¬ qwithin tp 0 5 = 0 ∧ (qwithin s (-1) 4 = 0 ∨ ¬ s < 0 ∧ ¬ n ≤ 60) ∧ r = some (.int (-2)) ∧ I = I' ∧ J = J' ∨ ¬ qwithin tp 0 5 = 0 ∧ ¬ qwithin s (-1) 4 = 0 ∧ ¬ s < 0 ∧ n ≤ 60 ∧ ¬ 0 ≤ n ∧ r = some (.int (-14)) ∧ I = I' ∧ J = J' ∨ ¬ qwithin s (-1) 4 = 0 ∧ (s < 0 ∨ n ≤ 60 ∧ 0 ≤ n) ∧ r = some (.int 1) ∧ ∃ t, t < 6 ∧ tp = nI t ∧ I' = qup (qup I 145 t s) 146 t (if 0 ≤ s then n else 0) ∧ J' = mfil J t 60)) := by
  have hT := hM.1
  have f53 := hM.r 30 rfl
  have g53 := hM.a 30 rfl
  have f54 := hM.r 31 rfl
  have g54 := hM.a 31 rfl
  have f55 := hM.r 32 rfl
  have g55 := hM.a 32 rfl
  refine qMet.of (L := [some (.ref (qb E + 114)), some (.int tp), some (.int s), some (.int n), none]) (by decide +kernel) (Nat.le_of_ble_eq_true rfl) rfl ?_
  refine ldi_n_5_1 (pc := 0) d_Md_tape_0 ?_
  refine r_callS (pc := 1) (As := [.int tp]) k_Md_361 sw_Md_isTape rfl (by decide) d_Md_tape_1 (c_Md_isTape tp) rfl (Nat.le_of_ble_eq_true rfl) (by omega) (by omega) (by omega) (fun v S' I' J' hq => ?_)
  obtain ⟨rfl, rfl, rfl, rfl⟩ := hq
  refine r_if_ne (pc := 4) (tgt := 9) d_Md_tape_4 (by decide) (fun c1 => ?_) (fun c1 => ?_)
  · refine ldi_n_5_2 (pc := 9) d_Md_tape_9 ?_
    refine r_iconst (pc := 10) (v := (-1)) d_Md_tape_10 rfl ?_
    refine r_iconst (pc := 11) (v := 4) d_Md_tape_11 rfl ?_
    refine r_callS (pc := 12) (As := [.int s, .int (-1), .int 4]) k_Md_120 sw_Md_within rfl (by decide) d_Md_tape_12 (c_Md_within s (-1) 4) rfl (Nat.le_of_ble_eq_true rfl) (by omega) (by omega) (by omega) (fun v S' I' J' hq => ?_)
    obtain ⟨rfl, rfl, rfl, rfl⟩ := hq
    refine r_if_eq (pc := 15) (tgt := 28) d_Md_tape_15 (by decide) (fun c2 => ?_) (fun c2 => ?_)
    · refine r_bipush (pc := 28) (v := (-2)) d_Md_tape_28 rfl ?_
      exact r_iret d_Md_tape_30 rfl (by omega) (by omega) (⟨rfl, Or.inr (Or.inl ⟨c1, Or.inl c2, rfl, rfl, rfl⟩)⟩)
    · have good : (s < 0 ∨ n ≤ 60 ∧ 0 ≤ n) → qW E y_Md_tape b_Md_tape (some .int) 2 0 0 (fun r S' I' J' => S = S' ∧ (qwithin tp 0 5 = 0 ∧ r = some (.int (-1)) ∧ I = I' ∧ J = J' ∨ ¬ qwithin tp 0 5 = 0 ∧ (qwithin s (-1) 4 = 0 ∨ ¬ s < 0 ∧ ¬ n ≤ 60) ∧ r = some (.int (-2)) ∧ I = I' ∧ J = J' ∨ ¬ qwithin tp 0 5 = 0 ∧ ¬ qwithin s (-1) 4 = 0 ∧ ¬ s < 0 ∧ n ≤ 60 ∧ ¬ 0 ≤ n ∧ r = some (.int (-14)) ∧ I = I' ∧ J = J' ∨ ¬ qwithin s (-1) 4 = 0 ∧ (s < 0 ∨ n ≤ 60 ∧ 0 ≤ n) ∧ r = some (.int 1) ∧ ∃ t, t < 6 ∧ tp = nI t ∧ I' = qup (qup I 145 t s) 146 t (if 0 ≤ s then n else 0) ∧ J' = mfil J t 60)) 0 0 42 [some (.ref (qb E + 114)), some (.int tp), some (.int s), some (.int n), none] [] S I J := by
        intro hg
        obtain ⟨t, ht, et⟩ := qtape_y c1
        have ett : tp.toNatClampNeg = t := by rw [et]; exact qcl (by omega)
        have hin : vp_in tp 6 := by rw [et]; exact vp_in_nI ht (by omega)
        have A63 : ∀ x, x = (if 0 ≤ s then n else 0) → qW E y_Md_tape b_Md_tape (some .int) 2 0 0 (fun r S' I' J' => S = S' ∧ (qwithin tp 0 5 = 0 ∧ r = some (.int (-1)) ∧ I = I' ∧ J = J' ∨ ¬ qwithin tp 0 5 = 0 ∧ (qwithin s (-1) 4 = 0 ∨ ¬ s < 0 ∧ ¬ n ≤ 60) ∧ r = some (.int (-2)) ∧ I = I' ∧ J = J' ∨ ¬ qwithin tp 0 5 = 0 ∧ ¬ qwithin s (-1) 4 = 0 ∧ ¬ s < 0 ∧ n ≤ 60 ∧ ¬ 0 ≤ n ∧ r = some (.int (-14)) ∧ I = I' ∧ J = J' ∨ ¬ qwithin s (-1) 4 = 0 ∧ (s < 0 ∨ n ≤ 60 ∧ 0 ≤ n) ∧ r = some (.int 1) ∧ ∃ t, t < 6 ∧ tp = nI t ∧ I' = qup (qup I 145 t s) 146 t (if 0 ≤ s then n else 0) ∧ J' = mfil J t 60)) 0 0 63 [some (.ref (qb E + 114)), some (.int tp), some (.int s), some (.int n), none] [.int x, .int tp, .ref (qb E + 146)] S (qup I 145 t s) J := by
          intro x ex
          refine r_iast (pc := 63) d_Md_tape_63 (by assumption) (by first | assumption | exact vp_in_nI (by omega) (by omega) | (unfold vp_in; decide)) ?_
          refine r_iconst (pc := 64) (v := 0) d_Md_tape_64 rfl ?_
          refine sti_5_4 (pc := 65) d_Md_tape_65 rfl ?_
          rw [ett]
          refine r_nmI (fun K hK => ?_)
          rw [q0]
          have lp : ∀ k, k ≤ 60 → qW E y_Md_tape b_Md_tape (some .int) 2 0 0 (fun r S' I' J' => S = S' ∧ (qwithin tp 0 5 = 0 ∧ r = some (.int (-1)) ∧ I = I' ∧ J = J' ∨ ¬ qwithin tp 0 5 = 0 ∧ (qwithin s (-1) 4 = 0 ∨ ¬ s < 0 ∧ ¬ n ≤ 60) ∧ r = some (.int (-2)) ∧ I = I' ∧ J = J' ∨ ¬ qwithin tp 0 5 = 0 ∧ ¬ qwithin s (-1) 4 = 0 ∧ ¬ s < 0 ∧ n ≤ 60 ∧ ¬ 0 ≤ n ∧ r = some (.int (-14)) ∧ I = I' ∧ J = J' ∨ ¬ qwithin s (-1) 4 = 0 ∧ (s < 0 ∨ n ≤ 60 ∧ 0 ≤ n) ∧ r = some (.int 1) ∧ ∃ t, t < 6 ∧ tp = nI t ∧ I' = qup (qup I 145 t s) 146 t (if 0 ≤ s then n else 0) ∧ J' = mfil J t 60)) 0 0 67 [some (.ref (qb E + 114)), some (.int tp), some (.int s), some (.int n), some (.int (nI k))] [] S K (mfil J t k) := by
            refine qfor 60 ?_ ?_
            · refine ldi_5_4 (pc := 67) d_Md_tape_67 ?_
              refine r_bipush (pc := 69) (v := 60) d_Md_tape_69 rfl ?_
              refine r_icmp_ge (pc := 71) (tgt := 93) d_Md_tape_71 (by decide) (fun cc => ?_) (fun cc => ?_)
              · refine r_iconst (pc := 93) (v := 1) d_Md_tape_93 rfl ?_
                exact r_iret d_Md_tape_94 rfl (by omega) (by omega) (⟨rfl, Or.inr (Or.inr (Or.inr ⟨c2, hg, rfl, t, ht, et, by rw [hK, ex], rfl⟩))⟩)
              · exact absurd (show nI 60 ≤ nI 60 from by decide) cc
            · intro k hk ih
              have hin2 : vp_in (60 * tp + nI k) 360 := by rw [et]; exact by rw [show (60 : Int32) = nI 60 from rfl, pk_mul, nI_add]; exact vp_in_nI (by omega) (by omega)
              have e2 : (60 * tp + nI k).toNatClampNeg = 60 * t + k := by rw [et, show (60 : Int32) = nI 60 from rfl, pk_mul, nI_add]; exact qcl (by omega)
              refine ldi_5_4 (pc := 67) d_Md_tape_67 ?_
              refine r_bipush (pc := 69) (v := 60) d_Md_tape_69 rfl ?_
              refine r_icmp_ge (pc := 71) (tgt := 93) d_Md_tape_71 (by decide) (fun cc => ?_) (fun cc => ?_)
              · exact absurd (show nI 60 ≤ nI k from cc) (nI_ge hk (by omega))
              · refine lda_n_5_0 (pc := 74) d_Md_tape_74 ?_
                refine g_Md_109 (pc := 75) rfl d_Md_tape_75 (by assumption) (by assumption) ?_
                refine r_bipush (pc := 78) (v := 60) d_Md_tape_78 rfl ?_
                refine ldi_n_5_1 (pc := 80) d_Md_tape_80 ?_
                refine r_imul (pc := 81) d_Md_tape_81 ?_
                refine ldi_5_4 (pc := 82) d_Md_tape_82 ?_
                refine r_iadd (pc := 84) d_Md_tape_84 ?_
                refine r_lconst (pc := 85) (v := 0) d_Md_tape_85 rfl ?_
                refine r_last (pc := 86) d_Md_tape_86 (by assumption) (by first | assumption | exact vp_in_nI (by omega) (by omega) | (unfold vp_in; decide)) ?_
                refine inc_5_4 (pc := 87) (w := 1) d_Md_tape_87 rfl rfl ?_
                refine r_goto (pc := 90) (tgt := 67) d_Md_tape_90 (by decide) ?_
                rw [e2, mfil_s, q1]
                exact ih
          have h0 := lp 0 (by omega)
          rw [mfil_0] at h0
          exact h0
        refine lda_n_5_0 (pc := 42) d_Md_tape_42 ?_
        refine g_Md_103 (pc := 43) rfl d_Md_tape_43 (by assumption) (by assumption) ?_
        refine ldi_n_5_1 (pc := 46) d_Md_tape_46 ?_
        refine ldi_n_5_2 (pc := 47) d_Md_tape_47 ?_
        refine r_iast (pc := 48) d_Md_tape_48 (by assumption) (by first | assumption | exact vp_in_nI (by omega) (by omega) | (unfold vp_in; decide)) ?_
        rw [ett]
        refine lda_n_5_0 (pc := 49) d_Md_tape_49 ?_
        refine g_Md_106 (pc := 50) rfl d_Md_tape_50 (by assumption) (by assumption) ?_
        refine ldi_n_5_1 (pc := 53) d_Md_tape_53 ?_
        refine ldi_n_5_2 (pc := 54) d_Md_tape_54 ?_
        refine r_if_ge (pc := 55) (tgt := 62) d_Md_tape_55 (by decide) (fun c3 => ?_) (fun c3 => ?_)
        · refine ldi_n_5_3 (pc := 62) d_Md_tape_62 ?_
          exact A63 n (by rw [if_pos c3])
        · refine r_iconst (pc := 58) (v := 0) d_Md_tape_58 rfl ?_
          refine r_goto (pc := 59) (tgt := 63) d_Md_tape_59 (by decide) ?_
          exact A63 0 (by rw [if_neg c3])
      refine ldi_n_5_2 (pc := 18) d_Md_tape_18 ?_
      refine r_if_lt (pc := 19) (tgt := 31) d_Md_tape_19 (by decide) (fun c3 => ?_) (fun c3 => ?_)
      · refine ldi_n_5_2 (pc := 31) d_Md_tape_31 ?_
        refine r_if_lt (pc := 32) (tgt := 42) d_Md_tape_32 (by decide) (fun c4 => ?_) (fun c4 => ?_)
        · exact good (Or.inl c3)
        · exact absurd c3 c4
      · refine ldi_n_5_3 (pc := 22) d_Md_tape_22 ?_
        refine r_bipush (pc := 23) (v := 60) d_Md_tape_23 rfl ?_
        refine r_icmp_le (pc := 25) (tgt := 31) d_Md_tape_25 (by decide) (fun c4 => ?_) (fun c4 => ?_)
        · refine ldi_n_5_2 (pc := 31) d_Md_tape_31 ?_
          refine r_if_lt (pc := 32) (tgt := 42) d_Md_tape_32 (by decide) (fun c5 => ?_) (fun c5 => ?_)
          · exact absurd c5 c3
          · refine ldi_n_5_3 (pc := 35) d_Md_tape_35 ?_
            refine r_if_ge (pc := 36) (tgt := 42) d_Md_tape_36 (by decide) (fun c6 => ?_) (fun c6 => ?_)
            · exact good (Or.inr ⟨c4, c6⟩)
            · refine r_bipush (pc := 39) (v := (-14)) d_Md_tape_39 rfl ?_
              exact r_iret d_Md_tape_41 rfl (by omega) (by omega) (⟨rfl, Or.inr (Or.inr (Or.inl ⟨c1, c2, c3, c4, c6, rfl, rfl, rfl⟩))⟩)
        · refine r_bipush (pc := 28) (v := (-2)) d_Md_tape_28 rfl ?_
          exact r_iret d_Md_tape_30 rfl (by omega) (by omega) (⟨rfl, Or.inr (Or.inl ⟨c1, Or.inr ⟨c3, c4⟩, rfl, rfl, rfl⟩)⟩)
  · refine r_iconst (pc := 7) (v := (-1)) d_Md_tape_7 rfl ?_
    exact r_iret d_Md_tape_8 rfl (by omega) (by omega) (⟨rfl, Or.inl ⟨c1, rfl, rfl, rfl⟩⟩)
end G14
