/-! the reference: what is lost, sums, PAIN, a day that goes, told exactly -/
/-- the clauses of what was read: which stand, and that none of their codes takes what isn't there -/
def mClOK (I : qI) (cz c : Nat) : Prop := I 125 c = 2 ∨ ∃ b n, I 127 c = nI b ∧ I 128 c = nI n ∧ b + n ≤ cz ∧ dokN (I 129) n b 0
def mIs (I : qI) (n : Nat) : Prop := n ≤ 6 ∧ I 114 17 = nI n ∧ ∃ cz, cz ≤ 100 * n ∧ I 114 25 = nI cz ∧ ∀ h, h < n → ∃ k, k ≤ 10 ∧ I 124 h = nI k ∧ ∀ i, i < k → mClOK I cz (10 * h + i)
def mHo (I : qI) (n : Nat) : Prop := I 114 18 = -1 ∨ ∃ h, h < n ∧ I 114 18 = nI h
def mlostN (I : qI) (h : Nat) : Nat → Int32
  | 0 => 0
  | k + 1 => if I 125 (10 * h + k) = 2 then I 126 (10 * h + k) else mlostN I h k
def mlost (I : qI) : Int32 := if I 114 18 = -1 then 0 else mlostN I (I 114 18).toNatClampNeg (I 124 (I 114 18).toNatClampNeg).toNatClampNeg
def mtrue (I : qI) (p : Nat) (w d : Int32) (c : Nat) : Int32 := (mevl (mtv I p w d) (I 129) (I 128 c).toNatClampNeg (I 127 c).toNatClampNeg []).reverse.getD 0 0
def msumN (I : qI) (p : Nat) (w d : Int32) (h : Nat) : Nat → Int32
  | 0 => I 117 p
  | k + 1 => if 2 ≤ I 125 (10 * h + k) then msumN I p w d h k else if mtrue I p w d (10 * h + k) = 0 then msumN I p w d h k else if I 125 (10 * h + k) = 0 then msumN I p w d h k + I 126 (10 * h + k) else msumN I p w d h k + -(I 126 (10 * h + k))
def msum (I : qI) (p : Nat) (w d : Int32) : Int32 := if I 114 18 = -1 then I 117 p else msumN I p w d (I 114 18).toNatClampNeg (I 124 (I 114 18).toNatClampNeg).toNatClampNeg
def mpn (I : qI) (p : Nat) (s d w : Int32) : Int32 := if I 115 p = 1 then s + w else if I 115 p = 2 then s - w else if I 115 p = 3 then (if w < I 116 p then s / 2 else 2 * s) else if I 115 p = 4 then s + (w + I 116 p) else if I 115 p = 5 then (if d - d / 2 * 2 = 1 then 0 else s - w) else if I 115 p = 6 then (if w < I 116 p then s / 2 else 2 * s) + I 121 (4 * p + (d - d / 4 * 4).toNatClampNeg) else s
def mpain (I : qI) (p : Nat) (d w : Int32) : Int32 := qmax 0 (mpn I p (msum I p w d) d w)
def mtodN (I : qI) (l : Nat) : Nat → Int32
  | 0 => -5
  | j + 1 => if I 120 (I 122 (l - (j + 1))).toNatClampNeg = 0 then I 122 (l - (j + 1)) else mtodN I l j
def mtod (I : qI) : Int32 := if qlost (mlost I) (I 114 10) = 0 then mtodN I (I 114 8).toNatClampNeg (I 114 8).toNatClampNeg else -5
def mgoP (I : qI) (one : Int32) (p : Nat) : qI := if nI p = one then I else if I 120 p = 1 then I else qup (qup I 119 p (I 119 p + mpain I p (I 114 10) (I 118 p))) 118 p (qmin 99 (I 118 p + 1))
def mgoPs (I : qI) (one : Int32) : Nat → qI
  | 0 => I
  | p + 1 => mgoP (mgoPs I one p) one p
def mgo1 (I : qI) : qI := qup (if mtod I = -5 then mgoPs I (mtod I) (I 114 0).toNatClampNeg else qup (mgoPs I (mtod I) (I 114 0).toNatClampNeg) 120 (mtod I).toNatClampNeg 1) 114 10 (I 114 10 + 1)
def q130 (I I' : qI) : Prop := qOnly (fun a => a = 130) I I'
theorem mIs.only {I K : qI} {n : Nat} (h : mIs I n) (hK : ∀ a, a = 114 ∨ (124 ≤ a ∧ a ≤ 129) → K a = I a) : mIs K n := by
  obtain ⟨h1, h2, cz, h3, h4, h5⟩ := h
  refine ⟨h1, by rw [hK 114 (by omega)]; exact h2, cz, h3, by rw [hK 114 (by omega)]; exact h4, fun h hh => ?_⟩
  obtain ⟨k, k1, k2, k3⟩ := h5 h hh
  refine ⟨k, k1, by rw [hK 124 (by omega)]; exact k2, fun i hi => ?_⟩
  unfold mClOK
  rw [hK 125 (by omega), hK 127 (by omega), hK 128 (by omega), hK 129 (by omega)]
  exact k3 i hi
theorem mtrue_only {I K : qI} {p c : Nat} {w d : Int32} (h : q130 I K) : mtrue K p w d c = mtrue I p w d c := by
  unfold mtrue
  rw [mtv_only h, h 127 (by decide), h 128 (by decide), h 129 (by decide)]
section G3
variable {E : qE} {S : qSh} {I : qI} {J : qJ}
theorem c_Md_lostBy {n : Nat} (hM : isMd S) (hI : mIs I n) (hh : mHo I n) : qMet E y_Md_lostBy b_Md_lostBy 3 (some .int) 0 0 0 [.ref (qb E + 114)] S I J (qPi S I J (mlost I)) := by
  have hT := hM.1
  have f19 := hM.r 9 rfl
  have g19 := hM.a 9 rfl
  have f20 := hM.r 10 rfl
  have g20 := hM.a 10 rfl
  have f21 := hM.r 11 rfl
  have g21 := hM.a 11 rfl
  obtain ⟨h1, h2, cz, h3, h4, h5⟩ := hI
  unfold mlost
  refine qMet.of (L := [some (.ref (qb E + 114)), none, none]) (by decide +kernel) (Nat.le_of_ble_eq_true rfl) rfl ?_
  rcases hh with hh | ⟨h, hn, hh⟩
  · rw [if_pos hh]
    refine r_iconst (pc := 0) (v := 0) d_Md_lostBy_0 rfl ?_
    refine sti_n_3_1 (pc := 1) d_Md_lostBy_1 rfl ?_
    refine r_iconst (pc := 2) (v := 0) d_Md_lostBy_2 rfl ?_
    refine sti_n_3_2 (pc := 3) d_Md_lostBy_3 rfl ?_
    refine lda_n_3_0 (pc := 4) d_Md_lostBy_4 ?_
    refine g_Md_113 (pc := 5) rfl d_Md_lostBy_5 (by assumption) ?_
    refine r_iconst (pc := 8) (v := (-1)) d_Md_lostBy_8 rfl ?_
    rw [hh]
    refine r_icmp_eq (pc := 9) (tgt := 64) d_Md_lostBy_9 (by decide) (fun c => ?_) (fun c => ?_)
    · refine ldi_n_3_1 (pc := 64) d_Md_lostBy_64 ?_
      exact r_iret d_Md_lostBy_65 rfl (by omega) (by omega) (⟨rfl, rfl, rfl, rfl⟩)
    · exact absurd rfl c
  · have hne : ¬ nI h = -1 := fun e => by have := congrArg Int32.toInt e; rw [nI_toInt (by omega)] at this; have e2 : (-1 : Int32).toInt = -1 := rfl; omega
    obtain ⟨m, m1, m2, m3⟩ := h5 h hn
    have eh : (nI h).toNatClampNeg = h := qcl (by omega)
    rw [hh, if_neg hne, eh, m2, qcl (n := m) (by omega)]
    refine r_iconst (pc := 0) (v := 0) d_Md_lostBy_0 rfl ?_
    refine sti_n_3_1 (pc := 1) d_Md_lostBy_1 rfl ?_
    refine r_iconst (pc := 2) (v := 0) d_Md_lostBy_2 rfl ?_
    refine sti_n_3_2 (pc := 3) d_Md_lostBy_3 rfl ?_
    rw [q0]
    have key : ∀ k, k ≤ m → qW E y_Md_lostBy b_Md_lostBy (some .int) 0 0 0 (qPi S I J (mlostN I h m)) 0 0 4 [some (.ref (qb E + 114)), some (.int (mlostN I h k)), some (.int (nI k))] [] S I J := by
      refine qfor m ?_ ?_
      · refine lda_n_3_0 (pc := 4) d_Md_lostBy_4 ?_
        refine g_Md_113 (pc := 5) rfl d_Md_lostBy_5 (by assumption) ?_
        refine r_iconst (pc := 8) (v := (-1)) d_Md_lostBy_8 rfl ?_
        rw [hh]
        refine r_icmp_eq (pc := 9) (tgt := 64) d_Md_lostBy_9 (by decide) (fun c => ?_) (fun c => ?_)
        · exact absurd c hne
        · refine ldi_n_3_2 (pc := 12) d_Md_lostBy_12 ?_
          refine lda_n_3_0 (pc := 13) d_Md_lostBy_13 ?_
          refine g_Md_39 (pc := 14) rfl d_Md_lostBy_14 (by assumption) (by assumption) ?_
          refine lda_n_3_0 (pc := 17) d_Md_lostBy_17 ?_
          refine g_Md_113 (pc := 18) rfl d_Md_lostBy_18 (by assumption) ?_
          rw [hh]
          refine r_iald (pc := 21) d_Md_lostBy_21 (by assumption) (by first | assumption | exact vp_in_nI (by omega) (by omega) | (unfold vp_in; decide)) ?_
          rw [eh, m2]
          refine r_icmp_ge (pc := 22) (tgt := 64) d_Md_lostBy_22 (by decide) (fun c2 => ?_) (fun c2 => ?_)
          · refine ldi_n_3_1 (pc := 64) d_Md_lostBy_64 ?_
            exact r_iret d_Md_lostBy_65 rfl (by omega) (by omega) (⟨rfl, rfl, rfl, rfl⟩)
          · exact absurd (nI_le (Nat.le_refl m) (by omega)) c2
      · intro k hk ih
        have ei : (10 : Int32) * nI h + nI k = nI (10 * h + k) := by rw [show (10 : Int32) = nI 10 from rfl, pk_mul, nI_add]
        have ec : (nI (10 * h + k)).toNatClampNeg = 10 * h + k := qcl (by omega)
        have hin : vp_in (nI (10 * h + k)) 61 := vp_in_nI (by omega) (by omega)
        refine lda_n_3_0 (pc := 4) d_Md_lostBy_4 ?_
        refine g_Md_113 (pc := 5) rfl d_Md_lostBy_5 (by assumption) ?_
        refine r_iconst (pc := 8) (v := (-1)) d_Md_lostBy_8 rfl ?_
        rw [hh]
        refine r_icmp_eq (pc := 9) (tgt := 64) d_Md_lostBy_9 (by decide) (fun c => ?_) (fun c => ?_)
        · exact absurd c hne
        · refine ldi_n_3_2 (pc := 12) d_Md_lostBy_12 ?_
          refine lda_n_3_0 (pc := 13) d_Md_lostBy_13 ?_
          refine g_Md_39 (pc := 14) rfl d_Md_lostBy_14 (by assumption) (by assumption) ?_
          refine lda_n_3_0 (pc := 17) d_Md_lostBy_17 ?_
          refine g_Md_113 (pc := 18) rfl d_Md_lostBy_18 (by assumption) ?_
          rw [hh]
          refine r_iald (pc := 21) d_Md_lostBy_21 (by assumption) (by first | assumption | exact vp_in_nI (by omega) (by omega) | (unfold vp_in; decide)) ?_
          rw [eh, m2]
          refine r_icmp_ge (pc := 22) (tgt := 64) d_Md_lostBy_22 (by decide) (fun c2 => ?_) (fun c2 => ?_)
          · exact absurd c2 (nI_ge hk (by omega))
          · refine lda_n_3_0 (pc := 25) d_Md_lostBy_25 ?_
            refine g_Md_42 (pc := 26) rfl d_Md_lostBy_26 (by assumption) (by assumption) ?_
            refine r_bipush (pc := 29) (v := 10) d_Md_lostBy_29 rfl ?_
            refine lda_n_3_0 (pc := 31) d_Md_lostBy_31 ?_
            refine g_Md_113 (pc := 32) rfl d_Md_lostBy_32 (by assumption) ?_
            refine r_imul (pc := 35) d_Md_lostBy_35 ?_
            refine ldi_n_3_2 (pc := 36) d_Md_lostBy_36 ?_
            refine r_iadd (pc := 37) d_Md_lostBy_37 ?_
            rw [hh, ei]
            refine r_iald (pc := 38) d_Md_lostBy_38 (by assumption) (by first | assumption | exact vp_in_nI (by omega) (by omega) | (unfold vp_in; decide)) ?_
            refine r_iconst (pc := 39) (v := 2) d_Md_lostBy_39 rfl ?_
            rw [ec]
            rw [mlostN] at ih
            refine r_icmp_ne (pc := 40) (tgt := 58) d_Md_lostBy_40 (by decide) (fun c3 => ?_) (fun c3 => ?_)
            · rw [if_neg c3] at ih
              refine inc_3_2 (pc := 58) (w := 1) d_Md_lostBy_58 rfl rfl ?_
              refine r_goto (pc := 61) (tgt := 4) d_Md_lostBy_61 (by decide) ?_
              rw [q1]
              exact ih
            · rw [if_pos c3] at ih
              refine lda_n_3_0 (pc := 43) d_Md_lostBy_43 ?_
              refine g_Md_45 (pc := 44) rfl d_Md_lostBy_44 (by assumption) (by assumption) ?_
              refine r_bipush (pc := 47) (v := 10) d_Md_lostBy_47 rfl ?_
              refine lda_n_3_0 (pc := 49) d_Md_lostBy_49 ?_
              refine g_Md_113 (pc := 50) rfl d_Md_lostBy_50 (by assumption) ?_
              refine r_imul (pc := 53) d_Md_lostBy_53 ?_
              refine ldi_n_3_2 (pc := 54) d_Md_lostBy_54 ?_
              refine r_iadd (pc := 55) d_Md_lostBy_55 ?_
              rw [hh, ei]
              refine r_iald (pc := 56) d_Md_lostBy_56 (by assumption) (by first | assumption | exact vp_in_nI (by omega) (by omega) | (unfold vp_in; decide)) ?_
              rw [ec]
              refine sti_n_3_1 (pc := 57) d_Md_lostBy_57 rfl ?_
              refine inc_3_2 (pc := 58) (w := 1) d_Md_lostBy_58 rfl rfl ?_
              refine r_goto (pc := 61) (tgt := 4) d_Md_lostBy_61 (by decide) ?_
              rw [q1]
              exact ih
    exact key 0 (by omega)
theorem c_Md_isLost {n : Nat} {x : Int32} (hM : isMd S) (hI : mIs I n) (hh : mHo I n) : qMet E y_Md_isLost b_Md_isLost 3 (some .boolean) 1 0 0 [.ref (qb E + 114), .int x] S I J (qPi S I J (qlost (mlost I) x)) := by
  have hT := hM.1
  refine qMet.of (L := [some (.ref (qb E + 114)), some (.int x), none]) (by decide +kernel) (Nat.le_of_ble_eq_true rfl) rfl ?_
  refine lda_n_3_0 (pc := 0) d_Md_isLost_0 ?_
  refine r_callV (pc := 1) (As := []) (k := 9) (N := 56) (T := T_Md) k_Md_229 im_Md_lostBy se_Md_lostBy rfl (by decide) rfl (by decide) d_Md_isLost_1 hT (c_Md_lostBy hM hI hh) rfl (Nat.le_of_ble_eq_true rfl) (by omega) (by omega) (by omega) (fun v S' I' J' hq => ?_)
  obtain ⟨rfl, rfl, rfl, rfl⟩ := hq
  unfold qlost
  refine sti_n_3_2 (pc := 4) d_Md_isLost_4 rfl ?_
  refine ldi_n_3_2 (pc := 5) d_Md_isLost_5 ?_
  refine r_iconst (pc := 6) (v := 1) d_Md_isLost_6 rfl ?_
  refine r_icmp_le (pc := 7) (tgt := 22) d_Md_isLost_7 (by decide) (fun c => ?_) (fun c => ?_)
  · rw [if_neg (Int32.not_lt.mpr c)]
    refine r_iconst (pc := 22) (v := 0) d_Md_isLost_22 rfl ?_
    exact r_nret d_Md_isLost_23 rfl (qbool_n (by first | exact Or.inl rfl | exact Or.inr rfl | assumption | exact qwithin_b | exact qbit_b)) (by omega) (by omega) (⟨rfl, rfl, rfl, rfl⟩)
  · have c2 : 1 < mlost I := Int32.not_le.mp c
    have hne : ¬ mlost I = 0 := fun e => by rw [e] at c2; exact absurd c2 (by decide)
    rw [if_pos c2]
    refine ldi_n_3_1 (pc := 10) d_Md_isLost_10 ?_
    refine r_iconst (pc := 11) (v := 1) d_Md_isLost_11 rfl ?_
    refine r_iadd (pc := 12) d_Md_isLost_12 ?_
    refine ldi_n_3_2 (pc := 13) d_Md_isLost_13 ?_
    refine r_irem (pc := 14) d_Md_isLost_14 (hne) ?_
    refine r_if_ne (pc := 15) (tgt := 22) d_Md_isLost_15 (by decide) (fun d => ?_) (fun d => ?_)
    · rw [if_neg d]
      refine r_iconst (pc := 22) (v := 0) d_Md_isLost_22 rfl ?_
      exact r_nret d_Md_isLost_23 rfl (qbool_n (by first | exact Or.inl rfl | exact Or.inr rfl | assumption | exact qwithin_b | exact qbit_b)) (by omega) (by omega) (⟨rfl, rfl, rfl, rfl⟩)
    · rw [if_pos d]
      refine r_iconst (pc := 18) (v := 1) d_Md_isLost_18 rfl ?_
      refine r_goto (pc := 19) (tgt := 23) d_Md_isLost_19 (by decide) ?_
      exact r_nret d_Md_isLost_23 rfl (qbool_n (by first | exact Or.inl rfl | exact Or.inr rfl | assumption | exact qwithin_b | exact qbit_b)) (by omega) (by omega) (⟨rfl, rfl, rfl, rfl⟩)
theorem c_Md_todays {n l : Nat} (hM : isMd S) (hI : mIs I n) (hh : mHo I n) (hl : I 114 8 = nI l) (h6 : l ≤ 6) (hL : ∀ k, k < 6 → ∃ p, p < 6 ∧ I 122 k = nI p) : qMet E y_Md_todays b_Md_todays 2 (some .int) 2 0 0 [.ref (qb E + 114)] S I J (qPi S I J (mtod I)) := by
  have hT := hM.1
  have f6 := hM.r 5 rfl
  have g6 := hM.a 5 rfl
  have f9 := hM.r 7 rfl
  have g9 := hM.a 7 rfl
  refine qMet.of (L := [some (.ref (qb E + 114)), none]) (by decide +kernel) (Nat.le_of_ble_eq_true rfl) rfl ?_
  refine lda_n_2_0 (pc := 0) d_Md_todays_0 ?_
  refine lda_n_2_0 (pc := 1) d_Md_todays_1 ?_
  refine g_Md_135 (pc := 2) rfl d_Md_todays_2 (by assumption) ?_
  refine r_callV (pc := 5) (As := [.int (I 114 10)]) (k := 9) (N := 56) (T := T_Md) k_Md_241 im_Md_isLost se_Md_isLost rfl (by decide) rfl (by decide) d_Md_todays_5 hT (c_Md_isLost hM hI hh) rfl (Nat.le_of_ble_eq_true rfl) (by omega) (by omega) (by omega) (fun v S' I' J' hq => ?_)
  obtain ⟨rfl, rfl, rfl, rfl⟩ := hq
  unfold mtod
  refine r_if_eq (pc := 8) (tgt := 14) d_Md_todays_8 (by decide) (fun c => ?_) (fun c => ?_)
  · rw [if_pos c, hl, qcl (n := l) (by omega)]
    refine r_iconst (pc := 14) (v := 0) d_Md_todays_14 rfl ?_
    refine sti_n_2_1 (pc := 15) d_Md_todays_15 rfl ?_
    rw [q0]
    have key := qfor (P := fun k => qW E y_Md_todays b_Md_todays (some .int) 2 0 0 (qPi S I J (mtodN I l (l - k))) 0 0 16 [some (.ref (qb E + 114)), some (.int (nI k))] [] S I J) l ?_ ?_ 0 (Nat.zero_le l)
    · simpa using key
    · refine ldi_n_2_1 (pc := 16) d_Md_todays_16 ?_
      refine lda_n_2_0 (pc := 17) d_Md_todays_17 ?_
      refine g_Md_124 (pc := 18) rfl d_Md_todays_18 (by assumption) ?_
      rw [hl]
      refine r_icmp_ge (pc := 21) (tgt := 51) d_Md_todays_21 (by decide) (fun c2 => ?_) (fun c2 => ?_)
      · refine r_bipush (pc := 51) (v := (-5)) d_Md_todays_51 rfl ?_
        refine r_iret d_Md_todays_53 rfl (by omega) (by omega) ?_
        simp [qPi, mtodN]
      · exact absurd (nI_le (Nat.le_refl l) (by omega)) c2
    · intro k hk ih
      obtain ⟨p, hp, ep⟩ := hL k (by omega)
      have ec : (nI p).toNatClampNeg = p := qcl (by omega)
      have e : l - k = (l - (k + 1)) + 1 := by omega
      refine ldi_n_2_1 (pc := 16) d_Md_todays_16 ?_
      refine lda_n_2_0 (pc := 17) d_Md_todays_17 ?_
      refine g_Md_124 (pc := 18) rfl d_Md_todays_18 (by assumption) ?_
      rw [hl]
      refine r_icmp_ge (pc := 21) (tgt := 51) d_Md_todays_21 (by decide) (fun c2 => ?_) (fun c2 => ?_)
      · exact absurd c2 (nI_ge hk (by omega))
      · refine lda_n_2_0 (pc := 24) d_Md_todays_24 ?_
        refine g_Md_27 (pc := 25) rfl d_Md_todays_25 (by assumption) (by assumption) ?_
        refine lda_n_2_0 (pc := 28) d_Md_todays_28 ?_
        refine g_Md_33 (pc := 29) rfl d_Md_todays_29 (by assumption) (by assumption) ?_
        refine ldi_n_2_1 (pc := 32) d_Md_todays_32 ?_
        refine r_iald (pc := 33) d_Md_todays_33 (by assumption) (by first | assumption | exact vp_in_nI (by omega) (by omega) | (unfold vp_in; decide)) ?_
        rw [qcl (n := k) (by omega), ep]
        refine r_iald (pc := 34) d_Md_todays_34 (by assumption) (by first | assumption | exact vp_in_nI (by omega) (by omega) | (unfold vp_in; decide)) ?_
        rw [ec]
        refine r_if_ne (pc := 35) (tgt := 45) d_Md_todays_35 (by decide) (fun c3 => ?_) (fun c3 => ?_)
        · have e2 : mtodN I l (l - k) = mtodN I l (l - (k + 1)) := by
            rw [e, mtodN, show l - (l - (k + 1) + 1) = k by omega, ep, ec, if_neg c3]
          refine inc_2_1 (pc := 45) (w := 1) d_Md_todays_45 rfl rfl ?_
          refine r_goto (pc := 48) (tgt := 16) d_Md_todays_48 (by decide) ?_
          rw [q1, e2]
          exact ih
        · refine lda_n_2_0 (pc := 38) d_Md_todays_38 ?_
          refine g_Md_33 (pc := 39) rfl d_Md_todays_39 (by assumption) (by assumption) ?_
          refine ldi_n_2_1 (pc := 42) d_Md_todays_42 ?_
          refine r_iald (pc := 43) d_Md_todays_43 (by assumption) (by first | assumption | exact vp_in_nI (by omega) (by omega) | (unfold vp_in; decide)) ?_
          rw [qcl (n := k) (by omega)]
          exact r_iret d_Md_todays_44 rfl (by omega) (by omega) (⟨by rw [e, mtodN, show l - (l - (k + 1) + 1) = k by omega, ep, ec, if_pos c3], rfl, rfl, rfl⟩)
  · rw [if_neg c]
    refine r_bipush (pc := 11) (v := (-5)) d_Md_todays_11 rfl ?_
    exact r_iret d_Md_todays_13 rfl (by omega) (by omega) (⟨rfl, rfl, rfl, rfl⟩)
theorem c_Md_sum {n p : Nat} {d w : Int32} (hM : isMd S) (hI : mIs I n) (hh : mHo I n) (hp : p < 6) : qMet E y_Md_sum b_Md_sum 7 (some .int) 2 0 0 [.ref (qb E + 114), .int (nI p), .int d, .int w] S I J (fun v S' I' J' => v = some (.int (msum I p w d)) ∧ S = S' ∧ q130 I I' ∧ J = J') := by
  have hI0 := hI
  have hT := hM.1
  have f3 := hM.r 2 rfl
  have g3 := hM.a 2 rfl
  have f19 := hM.r 9 rfl
  have g19 := hM.a 9 rfl
  have f20 := hM.r 10 rfl
  have g20 := hM.a 10 rfl
  have f21 := hM.r 11 rfl
  have g21 := hM.a 11 rfl
  have ecp : (nI p).toNatClampNeg = p := qcl (by omega)
  obtain ⟨h1, h2, cz, h3, h4, h5⟩ := hI
  unfold msum
  refine qMet.of (L := [some (.ref (qb E + 114)), some (.int (nI p)), some (.int d), some (.int w), none, none, none]) (by decide +kernel) (Nat.le_of_ble_eq_true rfl) rfl ?_
  refine lda_n_7_0 (pc := 0) d_Md_sum_0 ?_
  refine g_Md_18 (pc := 1) rfl d_Md_sum_1 (by assumption) (by assumption) ?_
  refine ldi_n_7_1 (pc := 4) d_Md_sum_4 ?_
  refine r_iald (pc := 5) d_Md_sum_5 (by assumption) (by first | assumption | exact vp_in_nI (by omega) (by omega) | (unfold vp_in; decide)) ?_
  rw [ecp]
  refine sti_7_4 (pc := 6) d_Md_sum_6 rfl ?_
  refine r_iconst (pc := 8) (v := 0) d_Md_sum_8 rfl ?_
  refine sti_7_5 (pc := 9) d_Md_sum_9 rfl ?_
  rcases hh with hh | ⟨h, hn, hh⟩
  · rw [if_pos hh]
    refine lda_n_7_0 (pc := 11) d_Md_sum_11 ?_
    refine g_Md_113 (pc := 12) rfl d_Md_sum_12 (by assumption) ?_
    refine r_iconst (pc := 15) (v := (-1)) d_Md_sum_15 rfl ?_
    rw [hh]
    refine r_icmp_eq (pc := 16) (tgt := 107) d_Md_sum_16 (by decide) (fun c => ?_) (fun c => ?_)
    · refine ldi_7_4 (pc := 107) d_Md_sum_107 ?_
      exact r_iret d_Md_sum_109 rfl (by omega) (by omega) (⟨rfl, rfl, qOnly.rf, rfl⟩)
    · exact absurd rfl c
  · have hne : ¬ nI h = -1 := fun e => by have := congrArg Int32.toInt e; rw [nI_toInt (by omega)] at this; have e2 : (-1 : Int32).toInt = -1 := rfl; omega
    obtain ⟨m, m1, m2, m3⟩ := h5 h hn
    have eh : (nI h).toNatClampNeg = h := qcl (by omega)
    rw [hh, if_neg hne, eh, m2, qcl (n := m) (by omega), q0]
    have key : ∀ k, k ≤ m → ∀ (K : qI) (a6 : Option Value), q130 I K → qW E y_Md_sum b_Md_sum (some .int) 2 0 0 (fun v S' I' J' => v = some (.int (msumN I p w d h m)) ∧ S = S' ∧ q130 I I' ∧ J = J') 0 0 11 [some (.ref (qb E + 114)), some (.int (nI p)), some (.int d), some (.int w), some (.int (msumN I p w d h k)), some (.int (nI k)), a6] [] S K J := by
      refine qfor m ?_ ?_
      · intro K a6 hK
        refine lda_n_7_0 (pc := 11) d_Md_sum_11 ?_
        refine g_Md_113 (pc := 12) rfl d_Md_sum_12 (by assumption) ?_
        refine r_iconst (pc := 15) (v := (-1)) d_Md_sum_15 rfl ?_
        rw [hK 114 (by decide), hh]
        refine r_icmp_eq (pc := 16) (tgt := 107) d_Md_sum_16 (by decide) (fun c => ?_) (fun c => ?_)
        · exact absurd c hne
        · refine ldi_7_5 (pc := 19) d_Md_sum_19 ?_
          refine lda_n_7_0 (pc := 21) d_Md_sum_21 ?_
          refine g_Md_39 (pc := 22) rfl d_Md_sum_22 (by assumption) (by assumption) ?_
          refine lda_n_7_0 (pc := 25) d_Md_sum_25 ?_
          refine g_Md_113 (pc := 26) rfl d_Md_sum_26 (by assumption) ?_
          rw [hK 114 (by decide), hh]
          refine r_iald (pc := 29) d_Md_sum_29 (by assumption) (by first | assumption | exact vp_in_nI (by omega) (by omega) | (unfold vp_in; decide)) ?_
          rw [eh, hK 124 (by decide), m2]
          refine r_icmp_ge (pc := 30) (tgt := 107) d_Md_sum_30 (by decide) (fun c2 => ?_) (fun c2 => ?_)
          · refine ldi_7_4 (pc := 107) d_Md_sum_107 ?_
            exact r_iret d_Md_sum_109 rfl (by omega) (by omega) (⟨rfl, rfl, hK, rfl⟩)
          · exact absurd (nI_le (Nat.le_refl m) (by omega)) c2
      · intro k hk ih K a6 hK
        have ei : (10 : Int32) * nI h + nI k = nI (10 * h + k) := by rw [show (10 : Int32) = nI 10 from rfl, pk_mul, nI_add]
        have ec : (nI (10 * h + k)).toNatClampNeg = 10 * h + k := qcl (by omega)
        have hin : vp_in (nI (10 * h + k)) 61 := vp_in_nI (by omega) (by omega)
        refine lda_n_7_0 (pc := 11) d_Md_sum_11 ?_
        refine g_Md_113 (pc := 12) rfl d_Md_sum_12 (by assumption) ?_
        refine r_iconst (pc := 15) (v := (-1)) d_Md_sum_15 rfl ?_
        rw [hK 114 (by decide), hh]
        refine r_icmp_eq (pc := 16) (tgt := 107) d_Md_sum_16 (by decide) (fun c => ?_) (fun c => ?_)
        · exact absurd c hne
        · refine ldi_7_5 (pc := 19) d_Md_sum_19 ?_
          refine lda_n_7_0 (pc := 21) d_Md_sum_21 ?_
          refine g_Md_39 (pc := 22) rfl d_Md_sum_22 (by assumption) (by assumption) ?_
          refine lda_n_7_0 (pc := 25) d_Md_sum_25 ?_
          refine g_Md_113 (pc := 26) rfl d_Md_sum_26 (by assumption) ?_
          rw [hK 114 (by decide), hh]
          refine r_iald (pc := 29) d_Md_sum_29 (by assumption) (by first | assumption | exact vp_in_nI (by omega) (by omega) | (unfold vp_in; decide)) ?_
          rw [eh, hK 124 (by decide), m2]
          refine r_icmp_ge (pc := 30) (tgt := 107) d_Md_sum_30 (by decide) (fun c2 => ?_) (fun c2 => ?_)
          · exact absurd c2 (nI_ge hk (by omega))
          · refine r_bipush (pc := 33) (v := 10) d_Md_sum_33 rfl ?_
            refine lda_n_7_0 (pc := 35) d_Md_sum_35 ?_
            refine g_Md_113 (pc := 36) rfl d_Md_sum_36 (by assumption) ?_
            rw [hK 114 (by decide), hh]
            refine r_imul (pc := 39) d_Md_sum_39 ?_
            refine ldi_7_5 (pc := 40) d_Md_sum_40 ?_
            refine r_iadd (pc := 42) d_Md_sum_42 ?_
            rw [ei]
            refine sti_7_6 (pc := 43) d_Md_sum_43 rfl ?_
            refine lda_n_7_0 (pc := 45) d_Md_sum_45 ?_
            refine g_Md_42 (pc := 46) rfl d_Md_sum_46 (by assumption) (by assumption) ?_
            refine ldi_7_6 (pc := 49) d_Md_sum_49 ?_
            refine r_iald (pc := 51) d_Md_sum_51 (by assumption) (by first | assumption | exact vp_in_nI (by omega) (by omega) | (unfold vp_in; decide)) ?_
            refine r_iconst (pc := 52) (v := 2) d_Md_sum_52 rfl ?_
            rw [ec, hK 125 (by decide)]
            rw [msumN] at ih
            refine r_icmp_ge (pc := 53) (tgt := 101) d_Md_sum_53 (by decide) (fun c3 => ?_) (fun c3 => ?_)
            · rw [if_pos c3] at ih
              refine inc_7_5 (pc := 101) (w := 1) d_Md_sum_101 rfl rfl ?_
              refine r_goto (pc := 104) (tgt := 11) d_Md_sum_104 (by decide) ?_
              rw [q1]
              exact ih K _ hK
            · rw [if_neg c3] at ih
              have hc : ∃ b n, I 127 (10 * h + k) = nI b ∧ I 128 (10 * h + k) = nI n ∧ b + n ≤ cz ∧ dokN (I 129) n b 0 := by
                rcases m3 k hk with e | e
                · exact absurd (by rw [e]; decide) c3
                · exact e
              obtain ⟨b, z, b1, b2, b3, b4⟩ := hc
              refine lda_n_7_0 (pc := 56) d_Md_sum_56 ?_
              refine ldi_n_7_1 (pc := 57) d_Md_sum_57 ?_
              refine ldi_n_7_3 (pc := 58) d_Md_sum_58 ?_
              refine ldi_n_7_2 (pc := 59) d_Md_sum_59 ?_
              refine ldi_7_6 (pc := 60) d_Md_sum_60 ?_
              refine r_callV (pc := 62) (As := [.int (nI p), .int w, .int d, .int (nI (10 * h + k))]) (k := 9) (N := 56) (T := T_Md) k_Md_225 im_Md_isTrue se_Md_isTrue rfl (by decide) rfl (by decide) d_Md_sum_62 hT (c_Md_isTrue (b := b) (n := z) hM hp (show 10 * h + k < 61 by omega) (by rw [hK 127 (by decide)]; exact b1) (by rw [hK 128 (by decide)]; exact b2) (by omega) (by rw [hK 129 (by decide)]; exact b4)) rfl (Nat.le_of_ble_eq_true rfl) (by omega) (by omega) (by omega) (fun v S' K2 J' hq => ?_)
              obtain ⟨rfl, rfl, hK2, rfl⟩ := hq
              have hKK : q130 I K2 := hK.tr hK2
              have ev : (mevl (mtv K p w d) (K 129) z b []).reverse.getD 0 0 = mtrue I p w d (10 * h + k) := by
                unfold mtrue
                rw [b1, b2, qcl (n := b) (by omega), qcl (n := z) (by omega), mtv_only hK, hK 129 (by decide)]
              rw [ev]
              refine r_if_eq (pc := 65) (tgt := 101) d_Md_sum_65 (by decide) (fun c4 => ?_) (fun c4 => ?_)
              · rw [if_pos c4] at ih
                refine inc_7_5 (pc := 101) (w := 1) d_Md_sum_101 rfl rfl ?_
                refine r_goto (pc := 104) (tgt := 11) d_Md_sum_104 (by decide) ?_
                rw [q1]
                exact ih K2 _ hKK
              · rw [if_neg c4] at ih
                refine ldi_7_4 (pc := 68) d_Md_sum_68 ?_
                refine lda_n_7_0 (pc := 70) d_Md_sum_70 ?_
                refine g_Md_42 (pc := 71) rfl d_Md_sum_71 (by assumption) (by assumption) ?_
                refine ldi_7_6 (pc := 74) d_Md_sum_74 ?_
                refine r_iald (pc := 76) d_Md_sum_76 (by assumption) (by first | assumption | exact vp_in_nI (by omega) (by omega) | (unfold vp_in; decide)) ?_
                rw [ec, hKK 125 (by decide)]
                refine r_if_ne (pc := 77) (tgt := 90) d_Md_sum_77 (by decide) (fun c5 => ?_) (fun c5 => ?_)
                · rw [if_neg c5] at ih
                  refine lda_n_7_0 (pc := 90) d_Md_sum_90 ?_
                  refine g_Md_45 (pc := 91) rfl d_Md_sum_91 (by assumption) (by assumption) ?_
                  refine ldi_7_6 (pc := 94) d_Md_sum_94 ?_
                  refine r_iald (pc := 96) d_Md_sum_96 (by assumption) (by first | assumption | exact vp_in_nI (by omega) (by omega) | (unfold vp_in; decide)) ?_
                  rw [ec, hKK 126 (by decide)]
                  refine r_ineg (pc := 97) d_Md_sum_97 ?_
                  refine r_iadd (pc := 98) d_Md_sum_98 ?_
                  refine sti_7_4 (pc := 99) d_Md_sum_99 rfl ?_
                  refine inc_7_5 (pc := 101) (w := 1) d_Md_sum_101 rfl rfl ?_
                  refine r_goto (pc := 104) (tgt := 11) d_Md_sum_104 (by decide) ?_
                  rw [q1]
                  exact ih K2 _ hKK
                · rw [if_pos c5] at ih
                  refine lda_n_7_0 (pc := 80) d_Md_sum_80 ?_
                  refine g_Md_45 (pc := 81) rfl d_Md_sum_81 (by assumption) (by assumption) ?_
                  refine ldi_7_6 (pc := 84) d_Md_sum_84 ?_
                  refine r_iald (pc := 86) d_Md_sum_86 (by assumption) (by first | assumption | exact vp_in_nI (by omega) (by omega) | (unfold vp_in; decide)) ?_
                  rw [ec, hKK 126 (by decide)]
                  refine r_goto (pc := 87) (tgt := 98) d_Md_sum_87 (by decide) ?_
                  refine r_iadd (pc := 98) d_Md_sum_98 ?_
                  refine sti_7_4 (pc := 99) d_Md_sum_99 rfl ?_
                  refine inc_7_5 (pc := 101) (w := 1) d_Md_sum_101 rfl rfl ?_
                  refine r_goto (pc := 104) (tgt := 11) d_Md_sum_104 (by decide) ?_
                  rw [q1]
                  exact ih K2 _ hKK
    exact key 0 (by omega) I none qOnly.rf
end G3
