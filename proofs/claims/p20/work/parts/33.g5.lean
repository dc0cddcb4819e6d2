/-! days that go -/
def mclN (I : qI) : Nat → qI
  | 0 => I
  | p + 1 => qup (mclN I p) 119 p (qmin 99999 (mclN I p 119 p))
def mpassN (I : qI) : Nat → qI
  | 0 => I
  | k + 1 => mclN (mgo1 (mpassN I k)) (I 114 0).toNatClampNeg
def mgoN (I : qI) : Nat → qI
  | 0 => I
  | k + 1 => mgo1 (mgoN I k)
theorem mclN_row {I : qI} {a : Nat} (h : a ≠ 119) : ∀ n, mclN I n a = I a := by
  intro n
  induction n with
  | zero => rfl
  | succ n ih => rw [mclN, qup_row h, ih]
theorem mpassN_row {I : qI} {a : Nat} (h1 : a ≠ 118) (h2 : a ≠ 119) (h3 : a ≠ 120) (h4 : a ≠ 114) : ∀ n, mpassN I n a = I a := by
  intro n
  induction n with
  | zero => rfl
  | succ n ih => rw [mpassN, mclN_row h2, mgo1_row h1 h2 h3 h4, ih]
theorem mpassN_f {I : qI} {j : Nat} (h : j ≠ 10) : ∀ n, mpassN I n 114 j = I 114 j := by
  intro n
  induction n with
  | zero => rfl
  | succ n ih => rw [mpassN, mclN_row (by decide), mgo1_f h, ih]
theorem mpassN_d {I : qI} {d : Nat} (h : I 114 10 = nI d) : ∀ n, mpassN I n 114 10 = nI (d + n) := by
  intro n
  induction n with
  | zero => exact h
  | succ n ih => rw [mpassN, mclN_row (by decide), mgo1_d, ih, q1]; rfl
theorem mgoN_row {I : qI} {a : Nat} (h1 : a ≠ 118) (h2 : a ≠ 119) (h3 : a ≠ 120) (h4 : a ≠ 114) : ∀ n, mgoN I n a = I a := by
  intro n
  induction n with
  | zero => rfl
  | succ n ih => rw [mgoN, mgo1_row h1 h2 h3 h4, ih]
theorem mgoN_f {I : qI} {j : Nat} (h : j ≠ 10) : ∀ n, mgoN I n 114 j = I 114 j := by
  intro n
  induction n with
  | zero => rfl
  | succ n ih => rw [mgoN, mgo1_f h, ih]
theorem mgoN_d {I : qI} {d : Nat} (h : I 114 10 = nI d) : ∀ n, mgoN I n 114 10 = nI (d + n) := by
  intro n
  induction n with
  | zero => exact h
  | succ n ih => rw [mgoN, mgo1_d, ih, q1]; rfl
/-- what a day that goes needs of the reference -/
def mDay (I : qI) (D : Nat) : Prop := (∃ n, mIs I n ∧ mHo I n) ∧ (∃ c, c ≤ 6 ∧ I 114 0 = nI c) ∧ (∃ l, l ≤ 6 ∧ I 114 8 = nI l) ∧ (∀ k, k < 6 → ∃ p, p < 6 ∧ I 122 k = nI p) ∧ ∃ d, d ≤ D ∧ I 114 10 = nI d
theorem mDay.go {I K : qI} {D : Nat} (h : mDay I D) (hK : ∀ a, a = 122 ∨ (124 ≤ a ∧ a ≤ 129) → K a = I a) (hf : ∀ j, j ≠ 10 → K 114 j = I 114 j) (hd : K 114 10 = I 114 10 + 1) : mDay K (D + 1) := by
  obtain ⟨⟨n, ⟨h1, h2, cz, h3, h4, h5⟩, hh⟩, ⟨c, c6, hc⟩, ⟨l, l6, hl⟩, hL, d, dD, hd2⟩ := h
  refine ⟨⟨n, ⟨h1, by rw [hf 17 (by decide)]; exact h2, cz, h3, by rw [hf 25 (by decide)]; exact h4, fun h hh => ?_⟩, by unfold mHo; rw [hf 18 (by decide)]; exact hh⟩, ⟨c, c6, by rw [hf 0 (by decide)]; exact hc⟩, ⟨l, l6, by rw [hf 8 (by decide)]; exact hl⟩, fun k hk => by rw [hK 122 (by omega)]; exact hL k hk, d + 1, by omega, by rw [hd, hd2, q1]⟩
  obtain ⟨k, k1, k2, k3⟩ := h5 h hh
  refine ⟨k, k1, by rw [hK 124 (by omega)]; exact k2, fun i hi => ?_⟩
  unfold mClOK
  rw [hK 125 (by omega), hK 127 (by omega), hK 128 (by omega), hK 129 (by omega)]
  exact k3 i hi
theorem mDay.eq {I K : qI} {D : Nat} (h : mDay I D) (hK : q130 I K) : mDay K D := by
  obtain ⟨⟨n, hI, hh⟩, ⟨c, c6, hc⟩, ⟨l, l6, hl⟩, hL, d, dD, hd2⟩ := h
  exact ⟨⟨n, hI.only (fun a ha => hK a (by omega)), by unfold mHo; rw [hK 114 (by decide)]; exact hh⟩, ⟨c, c6, by rw [hK 114 (by decide)]; exact hc⟩, ⟨l, l6, by rw [hK 114 (by decide)]; exact hl⟩, fun k hk => by rw [hK 122 (by decide)]; exact hL k hk, d, dD, by rw [hK 114 (by decide)]; exact hd2⟩
theorem mDay.go1 {I : qI} {D : Nat} (h : mDay I D) : mDay (mgo1 I) (D + 1) := h.go (fun a ha => mgo1_row (by omega) (by omega) (by omega) (by omega)) (fun j hj => mgo1_f hj) mgo1_d
theorem mDay.cl {I : qI} {D n : Nat} (h : mDay I D) : mDay (mclN I n) D := by
  obtain ⟨⟨z, hI, hh⟩, ⟨c, c6, hc⟩, ⟨l, l6, hl⟩, hL, d, dD, hd2⟩ := h
  have e : ∀ a, a ≠ 119 → mclN I n a = I a := fun a ha => mclN_row ha n
  exact ⟨⟨z, hI.only (fun a ha => e a (by omega)), by unfold mHo; rw [e 114 (by decide)]; exact hh⟩, ⟨c, c6, by rw [e 114 (by decide)]; exact hc⟩, ⟨l, l6, by rw [e 114 (by decide)]; exact hl⟩, fun k hk => by rw [e 122 (by decide)]; exact hL k hk, d, dD, by rw [e 114 (by decide)]; exact hd2⟩
theorem mDay.goN {I : qI} {D : Nat} (h : mDay I D) : ∀ n, mDay (mgoN I n) (D + n) := by
  intro n
  induction n with
  | zero => exact h
  | succ n ih => exact ih.go1
theorem mDay.passN {I : qI} {D : Nat} (h : mDay I D) : ∀ n, mDay (mpassN I n) (D + n) := by
  intro n
  induction n with
  | zero => exact h
  | succ n ih => exact (mDay.go1 ih).cl
theorem mDay.mo {I : qI} {D D' : Nat} (h : mDay I D) (hD : D ≤ D') : mDay I D' := by
  obtain ⟨a, b, c, e, d, dD, hd2⟩ := h
  exact ⟨a, b, c, e, d, by omega, hd2⟩
theorem mgo1_only {I K : qI} (hK : q130 I K) : q130 (mgo1 I) (mgo1 K) := by
  have hl : mlost K = mlost I := mlost_only hK
  have ht : mtod K = mtod I := by
    unfold mtod
    rw [hl, hK 114 (by decide)]
    split
    · have : ∀ l j, mtodN K l j = mtodN I l j := by
        intro l j
        induction j with
        | zero => rfl
        | succ j ih => rw [mtodN, mtodN, ih, hK 120 (by decide), hK 122 (by decide)]
      exact this _ _
    · rfl
  have hp : ∀ one n, q130 (mgoPs I one n) (mgoPs K one n) := by
    intro one n
    induction n with
    | zero => exact hK
    | succ n ih =>
      rw [mgoPs, mgoPs]
      unfold mgoP
      rw [ih 120 (by decide)]
      split
      · exact ih
      · split
        · exact ih
        · rw [ih 118 (by decide), ih 119 (by decide), ih 114 (by decide), mpain_only ih]
          exact q130.upp (q130.upp ih)
  unfold mgo1
  rw [ht, hK 114 (by decide)]
  split
  · exact q130.upp (hp _ _)
  · exact q130.upp (q130.upp (hp _ _))
section G5
variable {E : qE} {S : qSh} {I : qI} {J : qJ}
theorem c_Md_goesDay2 {D : Nat} (hM : isMd S) (h : mDay I D) (hD : D < 2 ^ 31) : qMet E y_Md_goesDay b_Md_goesDay 3 none 4 0 0 [.ref (qb E + 114)] S I J (fun v S' I' J' => v = none ∧ S = S' ∧ q130 (mgo1 I) I' ∧ J = J') := by
  obtain ⟨⟨n, hI, hh⟩, ⟨c, c6, hc⟩, ⟨l, l6, hl⟩, hL, d, dD, hd2⟩ := h
  exact c_Md_goesDay hM hI hh hc c6 hl l6 hL hd2 (by omega)
/-- the answer of pass, and what it leaves -/
theorem c_Md_pass {n : Int32} {d : Nat} (hM : isMd S) (h : mDay I 9999) (hd : I 114 10 = nI d) (hd9 : d ≤ 9999) : qMet E y_Md_pass b_Md_pass 4 (some .int) 5 0 0 [.ref (qb E + 114), .int n] S I J (fun r S' I' J' => S = S' ∧ J = J' ∧ (if qwithin n 0 60 = 0 then r = some (.int (-2)) ∧ I = I' else if 9999 < nI d + n then r = some (.int (-3)) ∧ I = I' else r = some (.int (nI d + n)) ∧ q130 (mpassN I n.toNatClampNeg) I')) := by
  have hT := hM.1
  have f5 := hM.r 4 rfl
  have g5 := hM.a 4 rfl
  have h0 := h
  obtain ⟨-, ⟨c, c6, hc⟩, -⟩ := h0
  refine qMet.of (L := [some (.ref (qb E + 114)), some (.int n), none, none]) (by decide +kernel) (Nat.le_of_ble_eq_true rfl) rfl ?_
  refine ldi_n_4_1 (pc := 0) d_Md_pass_0 ?_
  refine r_iconst (pc := 1) (v := 0) d_Md_pass_1 rfl ?_
  refine r_bipush (pc := 2) (v := 60) d_Md_pass_2 rfl ?_
  refine r_callS (pc := 4) (As := [.int n, .int 0, .int 60]) k_Md_120 sw_Md_within rfl (by decide) d_Md_pass_4 (c_Md_within n 0 60) rfl (Nat.le_of_ble_eq_true rfl) (by omega) (by omega) (by omega) (fun v S' I' J' hq => ?_)
  obtain ⟨rfl, rfl, rfl, rfl⟩ := hq
  refine r_if_ne (pc := 7) (tgt := 13) d_Md_pass_7 (by decide) (fun c1 => ?_) (fun c1 => ?_)
  · obtain ⟨m, hm, rfl⟩ : ∃ m, m ≤ 60 ∧ n = nI m := by
      obtain ⟨h1, h2⟩ := qwithin_y c1
      rw [Int32.le_iff_toInt_le] at h1 h2
      have e1 : (0 : Int32).toInt = 0 := rfl
      have e2 : (60 : Int32).toInt = 60 := rfl
      rw [e1] at h1
      rw [e2] at h2
      refine ⟨n.toInt.toNat, by omega, ?_⟩
      rw [← Int32.toInt_inj, nI_toInt (by omega)]; omega
    simp only [if_neg c1]
    refine lda_n_4_0 (pc := 13) d_Md_pass_13 ?_
    refine g_Md_135 (pc := 14) rfl d_Md_pass_14 (by assumption) ?_
    rw [hd]
    refine ldi_n_4_1 (pc := 17) d_Md_pass_17 ?_
    refine r_iadd (pc := 18) d_Md_pass_18 ?_
    refine r_sipush (pc := 19) (v := 9999) d_Md_pass_19 rfl ?_
    refine r_icmp_le (pc := 22) (tgt := 28) d_Md_pass_22 (by decide) (fun c2 => ?_) (fun c2 => ?_)
    · rw [nI_add] at c2
      simp only [nI_add, if_neg (Int32.not_lt.mpr c2), qcl (n := m) (show m < 2 ^ 31 by omega)]
      refine r_iconst (pc := 28) (v := 0) d_Md_pass_28 rfl ?_
      refine sti_n_4_2 (pc := 29) d_Md_pass_29 rfl ?_
      rw [q0]
      have key : ∀ k, k ≤ m → ∀ (K : qI) (a3 : Option Value), q130 (mpassN I k) K → qW E y_Md_pass b_Md_pass (some .int) 5 0 0 (fun r S' I' J' => S = S' ∧ J = J' ∧ r = some (.int (nI (d + m))) ∧ q130 (mpassN I m) I') 0 0 30 [some (.ref (qb E + 114)), some (.int (nI m)), some (.int (nI k)), a3] [] S K J := by
        refine qfor m ?_ ?_
        · intro K a3 hK
          refine ldi_n_4_2 (pc := 30) d_Md_pass_30 ?_
          refine ldi_n_4_1 (pc := 31) d_Md_pass_31 ?_
          refine r_icmp_ge (pc := 32) (tgt := 78) d_Md_pass_32 (by decide) (fun cc => ?_) (fun cc => ?_)
          · refine lda_n_4_0 (pc := 78) d_Md_pass_78 ?_
            refine g_Md_135 (pc := 79) rfl d_Md_pass_79 (by assumption) ?_
            rw [hK 114 (by decide), mpassN_d hd]
            exact r_iret d_Md_pass_82 rfl (by omega) (by omega) (⟨rfl, rfl, rfl, hK⟩)
          · exact absurd (nI_le (Nat.le_refl m) (by omega)) cc
        · intro k hk ih K a3 hK
          have hDk : mDay K (9999 + k) := (h.passN k).eq hK
          refine ldi_n_4_2 (pc := 30) d_Md_pass_30 ?_
          refine ldi_n_4_1 (pc := 31) d_Md_pass_31 ?_
          refine r_icmp_ge (pc := 32) (tgt := 78) d_Md_pass_32 (by decide) (fun cc => ?_) (fun cc => ?_)
          · exact absurd cc (nI_ge hk (by omega))
          · refine lda_n_4_0 (pc := 35) d_Md_pass_35 ?_
            refine r_callV (pc := 36) (As := []) (k := 9) (N := 56) (T := T_Md) k_Md_250 im_Md_goesDay se_Md_goesDay rfl (by decide) rfl (by decide) d_Md_pass_36 hT (c_Md_goesDay2 hM hDk (by omega)) rfl (Nat.le_of_ble_eq_true rfl) (by omega) (by omega) (by omega) (fun v S' K2 J' hq => ?_)
            obtain ⟨rfl, rfl, hK2, rfl⟩ := hq
            have hG : q130 (mgo1 (mpassN I k)) K2 := qOnly.tr (mgo1_only hK) hK2
            have e0 : ∀ (X : qI), X 114 = K2 114 → X 114 0 = nI c := fun X e => by rw [e, hG 114 (by decide), mgo1_f (by decide), mpassN_f (by decide), hc]
            refine r_iconst (pc := 39) (v := 0) d_Md_pass_39 rfl ?_
            refine sti_n_4_3 (pc := 40) d_Md_pass_40 rfl ?_
            rw [q0]
            have inner : ∀ z, z ≤ c → ∀ X, q130 (mclN (mgo1 (mpassN I k)) z) X → qW E y_Md_pass b_Md_pass (some .int) 5 0 0 (fun r S' I' J' => S = S' ∧ J = J' ∧ r = some (.int (nI (d + m))) ∧ q130 (mpassN I m) I') 0 0 41 [some (.ref (qb E + 114)), some (.int (nI m)), some (.int (nI k)), some (.int (nI z))] [] S X J := by
              refine qfor c ?_ ?_
              · intro X hX
                have eX : X 114 0 = nI c := by rw [hX 114 (by decide), mclN_row (by decide), mgo1_f (by decide), mpassN_f (by decide), hc]
                refine ldi_n_4_3 (pc := 41) d_Md_pass_41 ?_
                refine lda_n_4_0 (pc := 42) d_Md_pass_42 ?_
                refine g_Md_117 (pc := 43) rfl d_Md_pass_43 (by assumption) ?_
                rw [eX]
                refine r_icmp_ge (pc := 46) (tgt := 72) d_Md_pass_46 (by decide) (fun c3 => ?_) (fun c3 => ?_)
                · refine inc_4_2 (pc := 72) (w := 1) d_Md_pass_72 rfl rfl ?_
                  refine r_goto (pc := 75) (tgt := 30) d_Md_pass_75 (by decide) ?_
                  rw [q1]
                  refine ih X _ ?_
                  rw [mpassN, hc, qcl (n := c) (by omega)]
                  exact hX
                · exact absurd (nI_le (Nat.le_refl c) (by omega)) c3
              · intro z hz ih2 X hX
                have ez : (nI z).toNatClampNeg = z := qcl (by omega)
                have eX : X 114 0 = nI c := by rw [hX 114 (by decide), mclN_row (by decide), mgo1_f (by decide), mpassN_f (by decide), hc]
                refine ldi_n_4_3 (pc := 41) d_Md_pass_41 ?_
                refine lda_n_4_0 (pc := 42) d_Md_pass_42 ?_
                refine g_Md_117 (pc := 43) rfl d_Md_pass_43 (by assumption) ?_
                rw [eX]
                refine r_icmp_ge (pc := 46) (tgt := 72) d_Md_pass_46 (by decide) (fun c3 => ?_) (fun c3 => ?_)
                · exact absurd c3 (nI_ge hz (by omega))
                · refine lda_n_4_0 (pc := 49) d_Md_pass_49 ?_
                  refine g_Md_24 (pc := 50) rfl d_Md_pass_50 (by assumption) (by assumption) ?_
                  refine ldi_n_4_3 (pc := 53) d_Md_pass_53 ?_
                  refine r_ldc (pc := 54) ct_Md_142 d_Md_pass_54 ?_
                  refine lda_n_4_0 (pc := 56) d_Md_pass_56 ?_
                  refine g_Md_24 (pc := 57) rfl d_Md_pass_57 (by assumption) (by assumption) ?_
                  refine ldi_n_4_3 (pc := 60) d_Md_pass_60 ?_
                  refine r_iald (pc := 61) d_Md_pass_61 (by assumption) (by first | assumption | exact vp_in_nI (by omega) (by omega) | (unfold vp_in; decide)) ?_
                  rw [ez, hX 119 (by decide)]
                  refine r_callS (pc := 62) (As := [.int 99999, .int (mclN (mgo1 (mpassN I k)) z 119 z)]) k_Md_247 sw_jM_min rfl (by decide) d_Md_pass_62 (c_min 99999 _) rfl (Nat.le_of_ble_eq_true rfl) (by omega) (by omega) (by omega) (fun v S' I' J' hq => ?_)
                  obtain ⟨rfl, rfl, rfl, rfl⟩ := hq
                  refine r_iast (pc := 65) d_Md_pass_65 (by assumption) (by first | assumption | exact vp_in_nI (by omega) (by omega) | (unfold vp_in; decide)) ?_
                  refine inc_4_3 (pc := 66) (w := 1) d_Md_pass_66 rfl rfl ?_
                  refine r_goto (pc := 69) (tgt := 41) d_Md_pass_69 (by decide) ?_
                  rw [ez, q1]
                  rw [mclN] at ih2
                  exact ih2 _ (q130.upp hX)
            exact inner 0 (by omega) K2 hG
      exact key 0 (by omega) I none qOnly.rf
    · simp only [if_pos (Int32.not_le.mp c2)]
      refine r_bipush (pc := 25) (v := (-3)) d_Md_pass_25 rfl ?_
      exact r_iret d_Md_pass_27 rfl (by omega) (by omega) (⟨rfl, rfl, rfl, rfl⟩)
  · simp only [if_pos c1]
    refine r_bipush (pc := 10) (v := (-2)) d_Md_pass_10 rfl ?_
    exact r_iret d_Md_pass_12 rfl (by omega) (by omega) (⟨rfl, rfl, rfl, rfl⟩)
end G5
