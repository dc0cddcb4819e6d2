/-! the best rows, odds, means; who agrees, who is dear; what is seen -/
theorem lg_cmp_eq0 {b : Int64} (h : b = 0) : lg_cmp b 0 = 0 := by subst h; decide
theorem lg_cmp_0 {b : Int64} (h : lg_cmp b 0 = 0) : b = 0 := by
  unfold lg_cmp at h
  split at h
  · exact absurd h (by decide)
  · split at h
    · assumption
    · exact absurd h (by decide)
section G9
variable {E : qE} {S : qSh} {I : qI} {J : qJ}
abbrev qAskJ (S : qSh) (I : qI) (J : qJ) : qPost := fun v S' I' J' => ∃ r, v = some (.int r) ∧ S = S' ∧ mSame I I' ∧ mJo J J'
abbrev qAskL (S : qSh) (I : qI) (J : qJ) : qPost := fun v S' I' J' => ∃ r, v = some (.long r) ∧ S = S' ∧ mSame I I' ∧ mJo J J'
theorem cz0 : ∀ z, z < 7 → cz 0 z = z := by decide +kernel
theorem c_Md_allWays {b q : Int32} (hM : isMd S) (h : mDay I 9999) (hb : qbool b) : qMet E y_Md_allWays b_Md_allWays 3 none 8 0 0 [.ref (qb E + 114), .int b, .int q] S I J (fun v S' I' J' => v = none ∧ S = S' ∧ mSame I I' ∧ (∃ z, mLeft I' z) ∧ mJo J J' ∧ ∃ a, 1 ≤ a ∧ a ≤ 46656 ∧ J' 114 51 = lN a) := by
  have hT := hM.1
  refine qMet.of (L := [some (.ref (qb E + 114)), some (.int b), some (.int q)]) (by decide +kernel) (Nat.le_of_ble_eq_true rfl) rfl ?_
  refine lda_n_3_0 (pc := 0) d_Md_allWays_0 ?_
  refine r_callV (pc := 1) (As := []) (k := 9) (N := 56) (T := T_Md) k_Md_302 im_Md_looks se_Md_looks rfl (by decide) rfl (by decide) d_Md_allWays_1 hT (c_Md_looks hM h) rfl (Nat.le_of_ble_eq_true rfl) (by omega) (by omega) (by omega) (fun v S' I2 J' hq => ?_)
  obtain ⟨rfl, rfl, s2, ⟨z, hz⟩, rfl⟩ := hq
  have hz6 := hz.2.1
  refine lda_n_3_0 (pc := 4) d_Md_allWays_4 ?_
  refine ldi_n_3_1 (pc := 5) d_Md_allWays_5 ?_
  refine p_Md_288 (pc := 6) rfl d_Md_allWays_6 (by assumption) (by first | exact Or.inl rfl | exact Or.inr rfl | assumption) ?_
  refine r_nmI (fun I3 hI3 => ?_)
  have s3 : mSame I I3 := by rw [hI3]; exact s2.tr (mSame.f (Or.inr rfl))
  have z3 : mLeft I3 z := by rw [hI3]; exact ⟨by rw [qup_j (by decide)]; exact hz.1, hz6, fun i hi => by rw [qup_o (by decide)]; exact hz.2.2 i hi⟩
  refine lda_n_3_0 (pc := 9) d_Md_allWays_9 ?_
  refine ldi_n_3_2 (pc := 10) d_Md_allWays_10 ?_
  refine r_i2l (pc := 11) d_Md_allWays_11 ?_
  refine p_Md_282 (pc := 12) rfl d_Md_allWays_12 (by assumption) ?_
  refine r_nmJ (fun J1 h1 => ?_)
  have o1 : mJo J J1 := by rw [h1]; exact mJo.up (fun _ _ => rfl)
  refine lda_n_3_0 (pc := 15) d_Md_allWays_15 ?_
  refine r_ldc2 (pc := 16) cl_Md_305 d_Md_allWays_16 ?_
  refine p_Md_292 (pc := 19) rfl d_Md_allWays_19 (by assumption) ?_
  refine r_nmJ (fun J2 h2 => ?_)
  have o2 : mJo J J2 := by rw [h2]; exact o1.up
  refine lda_n_3_0 (pc := 22) d_Md_allWays_22 ?_
  refine r_lconst (pc := 23) (v := 0) d_Md_allWays_23 rfl ?_
  refine p_Md_285 (pc := 24) rfl d_Md_allWays_24 (by assumption) ?_
  refine r_nmJ (fun J3 h3 => ?_)
  have o3 : mJo J J3 := by rw [h3]; exact o2.up
  refine lda_n_3_0 (pc := 27) d_Md_allWays_27 ?_
  refine r_lconst (pc := 28) (v := 0) d_Md_allWays_28 rfl ?_
  refine p_Md_275 (pc := 29) rfl d_Md_allWays_29 (by assumption) ?_
  refine r_nmJ (fun J4 h4 => ?_)
  have o4 : mJo J J4 := by rw [h4]; exact o3.up
  have t4 : J4 114 51 = lN 0 := by rw [h4, qup_at]; rfl
  refine lda_n_3_0 (pc := 32) d_Md_allWays_32 ?_
  refine r_lconst (pc := 33) (v := 0) d_Md_allWays_33 rfl ?_
  refine p_Md_279 (pc := 34) rfl d_Md_allWays_34 (by assumption) ?_
  refine r_nmJ (fun J5 h5 => ?_)
  have o5 : mJo J J5 := by rw [h5]; exact o4.up
  have t5 : J5 114 51 = lN 0 := by rw [h5, qup_j (by decide)]; exact t4
  refine lda_n_3_0 (pc := 37) d_Md_allWays_37 ?_
  refine r_iconst (pc := 38) (v := 0) d_Md_allWays_38 rfl ?_
  refine r_iconst (pc := 39) (v := 0) d_Md_allWays_39 rfl ?_
  refine r_lconst (pc := 40) (v := 0) d_Md_allWays_40 rfl ?_
  refine r_lconst (pc := 41) (v := 0) d_Md_allWays_41 rfl ?_
  have hz7 : cz 0 z = z := cz0 z (by omega)
  have hd : z ≤ 6 := hz6
  rw [q0]
  refine r_callV (pc := 42) (As := [.int (nI 0), .int (nI 0), .long 0, .long 0]) (k := 9) (N := 56) (T := T_Md) k_Md_298 im_Md_tries se_Md_tries rfl (by decide) rfl (by decide) d_Md_allWays_42 hT (c_Md_tries hM z I3 J5 0 0 0 0 0 (by omega) z3 (by decide) hz7 t5) rfl (Nat.le_of_ble_eq_true rfl) (by omega) (by omega) (by omega) (fun v S' I4 J6 hq => ?_)
  obtain ⟨rfl, rfl, s4, o6, t, t1, t2, t6⟩ := hq
  have hp : (6 : Nat) ^ z ≤ 6 ^ 6 := Nat.pow_le_pow_right (by decide) hz6
  have h66 : (6 : Nat) ^ 6 = 46656 := by decide
  exact r_vret d_Md_allWays_45 rfl (by omega) (by omega) (⟨rfl, rfl, s3.tr (mSame.only s4 (fun a ha => by omega)), ⟨z, by rw [s4 114 (by decide)]; exact z3.1, hz6, fun i hi => by rw [s4 142 (by decide)]; exact z3.2.2 i hi⟩, fun b hb => (o6 b hb).trans (o5 b hb), t, t1, by omega, by rw [t6, Nat.zero_add]⟩)
theorem c_Md_best {x k : Int32} (hM : isMd S) (h : mDay I 9999) : qMet E y_Md_best b_Md_best 3 (some .int) 9 0 0 [.ref (qb E + 114), .int x, .int k] S I J (qAskJ S I J) := by
  have hT := hM.1
  have f46 := hM.r 29 rfl
  have g46 := hM.a 29 rfl
  refine qMet.of (L := [some (.ref (qb E + 114)), some (.int x), some (.int k)]) (by decide +kernel) (Nat.le_of_ble_eq_true rfl) rfl ?_
  refine ldi_n_3_1 (pc := 0) d_Md_best_0 ?_
  refine r_iconst (pc := 1) (v := 0) d_Md_best_1 rfl ?_
  refine r_iconst (pc := 2) (v := 1) d_Md_best_2 rfl ?_
  refine r_callS (pc := 3) (As := [.int x, .int 0, .int 1]) k_Md_120 sw_Md_within rfl (by decide) d_Md_best_3 (c_Md_within x 0 1) rfl (Nat.le_of_ble_eq_true rfl) (by omega) (by omega) (by omega) (fun v S' I' J' hq => ?_)
  obtain ⟨rfl, rfl, rfl, rfl⟩ := hq
  refine r_if_eq (pc := 6) (tgt := 18) d_Md_best_6 (by decide) (fun c1 => ?_) (fun c1 => ?_)
  · refine r_iconst (pc := 18) (v := (-1)) d_Md_best_18 rfl ?_
    exact r_iret d_Md_best_19 rfl (by omega) (by omega) (⟨_, rfl, rfl, mSame.rf, fun _ _ => rfl⟩)
  · refine ldi_n_3_2 (pc := 9) d_Md_best_9 ?_
    refine r_iconst (pc := 10) (v := (-1)) d_Md_best_10 rfl ?_
    refine r_iconst (pc := 11) (v := 5) d_Md_best_11 rfl ?_
    refine r_callS (pc := 12) (As := [.int k, .int (-1), .int 5]) k_Md_120 sw_Md_within rfl (by decide) d_Md_best_12 (c_Md_within k (-1) 5) rfl (Nat.le_of_ble_eq_true rfl) (by omega) (by omega) (by omega) (fun v S' I' J' hq => ?_)
    obtain ⟨rfl, rfl, rfl, rfl⟩ := hq
    refine r_if_ne (pc := 15) (tgt := 20) d_Md_best_15 (by decide) (fun c2 => ?_) (fun c2 => ?_)
    · have body : ∀ b, qbool b → qW E y_Md_best b_Md_best (some .int) 9 0 0 (qAskJ S I J) 0 0 31 [some (.ref (qb E + 114)), some (.int x), some (.int k)] [.int b, .ref (qb E + 114)] S I J := by
        intro b hb
        refine r_iconst (pc := 31) (v := 0) d_Md_best_31 rfl ?_
        refine r_callV (pc := 32) (As := [.int b, .int 0]) (k := 9) (N := 56) (T := T_Md) k_Md_307 im_Md_allWays se_Md_allWays rfl (by decide) rfl (by decide) d_Md_best_32 hT (c_Md_allWays hM h hb) rfl (Nat.le_of_ble_eq_true rfl) (by omega) (by omega) (by omega) (fun v S' I2 J2 hq => ?_)
        obtain ⟨rfl, rfl, s2, ⟨z, hz⟩, o2, -⟩ := hq
        refine ldi_n_3_2 (pc := 35) d_Md_best_35 ?_
        refine r_iconst (pc := 36) (v := (-1)) d_Md_best_36 rfl ?_
        refine r_icmp_ne (pc := 37) (tgt := 48) d_Md_best_37 (by decide) (fun c3 => ?_) (fun c3 => ?_)
        · refine ldi_n_3_2 (pc := 48) d_Md_best_48 ?_
          refine lda_n_3_0 (pc := 49) d_Md_best_49 ?_
          refine g_Md_272 (pc := 50) rfl d_Md_best_50 (by assumption) ?_
          rw [hz.1]
          refine r_icmp_ge (pc := 53) (tgt := 65) d_Md_best_53 (by decide) (fun c4 => ?_) (fun c4 => ?_)
          · refine r_bipush (pc := 65) (v := (-5)) d_Md_best_65 rfl ?_
            exact r_iret d_Md_best_67 rfl (by omega) (by omega) (⟨_, rfl, rfl, s2, o2⟩)
          · have hk0 : 0 ≤ k := by
              obtain ⟨h1, -⟩ := qwithin_y c2
              rw [Int32.le_iff_toInt_le] at h1 ⊢
              rw [← Int32.toInt_inj] at c3
              have e1 : (0 : Int32).toInt = 0 := rfl
              have e2 : (-1 : Int32).toInt = -1 := rfl
              rw [e1]
              rw [e2] at h1 c3
              omega
            have hin : vp_in k 6 := by
              have h6 := hz.2.1
              rw [Int32.le_iff_toInt_le] at hk0
              have e1 : (0 : Int32).toInt = 0 := rfl
              rw [e1] at hk0
              rw [Int32.not_le, Int32.lt_iff_toInt_lt, nI_toInt (by omega)] at c4
              rw [vp_in_iff]
              omega
            refine lda_n_3_0 (pc := 56) d_Md_best_56 ?_
            refine g_Md_100 (pc := 57) rfl d_Md_best_57 (by assumption) (by assumption) ?_
            refine ldi_n_3_2 (pc := 60) d_Md_best_60 ?_
            refine r_iald (pc := 61) d_Md_best_61 (by assumption) (by first | assumption | exact vp_in_nI (by omega) (by omega) | (unfold vp_in; decide)) ?_
            refine r_goto (pc := 62) (tgt := 67) d_Md_best_62 (by decide) ?_
            exact r_iret d_Md_best_67 rfl (by omega) (by omega) (⟨_, rfl, rfl, s2, o2⟩)
        · refine lda_n_3_0 (pc := 40) d_Md_best_40 ?_
          refine g_Md_292 (pc := 41) rfl d_Md_best_41 (by assumption) ?_
          refine r_l2i (pc := 44) d_Md_best_44 ?_
          refine r_goto (pc := 45) (tgt := 67) d_Md_best_45 (by decide) ?_
          exact r_iret d_Md_best_67 rfl (by omega) (by omega) (⟨_, rfl, rfl, s2, o2⟩)
      refine lda_n_3_0 (pc := 20) d_Md_best_20 ?_
      refine ldi_n_3_1 (pc := 21) d_Md_best_21 ?_
      refine r_iconst (pc := 22) (v := 1) d_Md_best_22 rfl ?_
      refine r_icmp_ne (pc := 23) (tgt := 30) d_Md_best_23 (by decide) (fun c3 => ?_) (fun c3 => ?_)
      · refine r_iconst (pc := 30) (v := 0) d_Md_best_30 rfl ?_
        exact body 0 (Or.inl rfl)
      · refine r_iconst (pc := 26) (v := 1) d_Md_best_26 rfl ?_
        refine r_goto (pc := 27) (tgt := 31) d_Md_best_27 (by decide) ?_
        exact body 1 (Or.inr rfl)
    · refine r_iconst (pc := 18) (v := (-1)) d_Md_best_18 rfl ?_
      exact r_iret d_Md_best_19 rfl (by omega) (by omega) (⟨_, rfl, rfl, mSame.rf, fun _ _ => rfl⟩)
theorem c_Md_part {x y : Int64} {p : Int32} (hy : ¬ y = 0) : qMet E y_Md_part b_Md_part 11 (some .long) 0 0 0 [.long x, .long y, .int p] S I J (fun v S' I' J' => (∃ r, v = some (.long r)) ∧ S = S' ∧ I = I' ∧ J = J') := by
  refine qMet.of (L := [some (.long x), none, some (.long y), none, some (.int p), none, none, none, none, none, none]) (by decide +kernel) (Nat.le_of_ble_eq_true rfl) rfl ?_
  refine ldl_n_11_0 (pc := 0) d_Md_part_0 ?_
  refine stl_11_5 (pc := 1) d_Md_part_1 rfl ?_
  refine ldl_n_11_2 (pc := 3) d_Md_part_3 ?_
  refine stl_11_7 (pc := 4) d_Md_part_4 rfl ?_
  have lp : ∀ n (a b : Int64) (a9 : Option Value), b.toInt.natAbs ≤ n → (¬ b = 0 ∨ ¬ a = 0) → qW E y_Md_part b_Md_part (some .long) 0 0 0 (fun v S' I' J' => (∃ r, v = some (.long r)) ∧ S = S' ∧ I = I' ∧ J = J') 0 0 6 [some (.long x), none, some (.long y), none, some (.int p), some (.long a), none, some (.long b), none, a9, none] [] S I J := by
    intro n
    induction n with
    | zero =>
      intro a b a9 hb hn
      have hb0 : b = 0 := Int64.toInt_inj.mp (by rw [show (0 : Int64).toInt = 0 from rfl]; omega)
      have ha : ¬ a = 0 := hn.resolve_left (fun q => q hb0)
      refine ldl_11_7 (pc := 6) d_Md_part_6 ?_
      refine r_lconst (pc := 8) (v := 0) d_Md_part_8 rfl ?_
      refine r_lcmp (pc := 9) d_Md_part_9 ?_
      refine r_if_eq (pc := 10) (tgt := 31) d_Md_part_10 (by decide) (fun c => ?_) (fun c => ?_)
      · refine ldi_11_4 (pc := 31) d_Md_part_31 ?_
        refine r_if_ne (pc := 33) (tgt := 43) d_Md_part_33 (by decide) (fun c2 => ?_) (fun c2 => ?_)
        · refine ldl_n_11_2 (pc := 43) d_Md_part_43 ?_
          refine ldl_11_5 (pc := 44) d_Md_part_44 ?_
          refine r_ldiv (pc := 46) d_Md_part_46 (ha) ?_
          exact r_lret d_Md_part_47 rfl (by omega) (by omega) (⟨⟨_, rfl⟩, rfl, rfl, rfl⟩)
        · refine ldl_n_11_0 (pc := 36) d_Md_part_36 ?_
          refine ldl_11_5 (pc := 37) d_Md_part_37 ?_
          refine r_ldiv (pc := 39) d_Md_part_39 (ha) ?_
          refine r_goto (pc := 40) (tgt := 47) d_Md_part_40 (by decide) ?_
          exact r_lret d_Md_part_47 rfl (by omega) (by omega) (⟨⟨_, rfl⟩, rfl, rfl, rfl⟩)
      · exact absurd (lg_cmp_eq0 hb0) c
    | succ n ih =>
      intro a b a9 hb hn
      refine ldl_11_7 (pc := 6) d_Md_part_6 ?_
      refine r_lconst (pc := 8) (v := 0) d_Md_part_8 rfl ?_
      refine r_lcmp (pc := 9) d_Md_part_9 ?_
      refine r_if_eq (pc := 10) (tgt := 31) d_Md_part_10 (by decide) (fun c => ?_) (fun c => ?_)
      · have hb0 : b = 0 := lg_cmp_0 c
        have ha : ¬ a = 0 := hn.resolve_left (fun q => q hb0)
        refine ldi_11_4 (pc := 31) d_Md_part_31 ?_
        refine r_if_ne (pc := 33) (tgt := 43) d_Md_part_33 (by decide) (fun c2 => ?_) (fun c2 => ?_)
        · refine ldl_n_11_2 (pc := 43) d_Md_part_43 ?_
          refine ldl_11_5 (pc := 44) d_Md_part_44 ?_
          refine r_ldiv (pc := 46) d_Md_part_46 (ha) ?_
          exact r_lret d_Md_part_47 rfl (by omega) (by omega) (⟨⟨_, rfl⟩, rfl, rfl, rfl⟩)
        · refine ldl_n_11_0 (pc := 36) d_Md_part_36 ?_
          refine ldl_11_5 (pc := 37) d_Md_part_37 ?_
          refine r_ldiv (pc := 39) d_Md_part_39 (ha) ?_
          refine r_goto (pc := 40) (tgt := 47) d_Md_part_40 (by decide) ?_
          exact r_lret d_Md_part_47 rfl (by omega) (by omega) (⟨⟨_, rfl⟩, rfl, rfl, rfl⟩)
      · have hb0 : ¬ b = 0 := fun e => c (lg_cmp_eq0 e)
        refine ldl_11_5 (pc := 13) d_Md_part_13 ?_
        refine ldl_11_7 (pc := 15) d_Md_part_15 ?_
        refine r_lrem (pc := 17) d_Md_part_17 (hb0) ?_
        refine stl_11_9 (pc := 18) d_Md_part_18 rfl ?_
        refine ldl_11_7 (pc := 20) d_Md_part_20 ?_
        refine stl_11_5 (pc := 22) d_Md_part_22 rfl ?_
        refine ldl_11_9 (pc := 24) d_Md_part_24 ?_
        refine stl_11_7 (pc := 26) d_Md_part_26 rfl ?_
        refine r_goto (pc := 28) (tgt := 6) d_Md_part_28 (by decide) ?_
        have hl := lrem_lt (x := a) hb0
        exact ih b _ _ (by omega) (Or.inr hb0)
  exact lp _ x y none (Nat.le_refl _) (Or.inl hy)
theorem lN_ne0 {a : Nat} (h1 : 1 ≤ a) (h2 : a ≤ 46656) : ¬ lN a = 0 := fun e => by
  have := congrArg Int64.toInt e
  rw [lN_toInt (by omega)] at this
  have e2 : (0 : Int64).toInt = 0 := rfl
  omega
theorem c_Md_odds {q p : Int32} (hM : isMd S) (h : mDay I 9999) : qMet E y_Md_odds b_Md_odds 3 (some .long) 9 0 0 [.ref (qb E + 114), .int q, .int p] S I J (qAskL S I J) := by
  have hT := hM.1
  refine qMet.of (L := [some (.ref (qb E + 114)), some (.int q), some (.int p)]) (by decide +kernel) (Nat.le_of_ble_eq_true rfl) rfl ?_
  refine ldi_n_3_1 (pc := 0) d_Md_odds_0 ?_
  refine r_iconst (pc := 1) (v := 0) d_Md_odds_1 rfl ?_
  refine r_sipush (pc := 2) (v := 9999) d_Md_odds_2 rfl ?_
  refine r_callS (pc := 5) (As := [.int q, .int 0, .int 9999]) k_Md_120 sw_Md_within rfl (by decide) d_Md_odds_5 (c_Md_within q 0 9999) rfl (Nat.le_of_ble_eq_true rfl) (by omega) (by omega) (by omega) (fun v S' I' J' hq => ?_)
  obtain ⟨rfl, rfl, rfl, rfl⟩ := hq
  refine r_if_eq (pc := 8) (tgt := 20) d_Md_odds_8 (by decide) (fun c1 => ?_) (fun c1 => ?_)
  · refine r_ldc2 (pc := 20) cl_Md_327 d_Md_odds_20 ?_
    exact r_lret d_Md_odds_23 rfl (by omega) (by omega) (⟨_, rfl, rfl, mSame.rf, fun _ _ => rfl⟩)
  · refine ldi_n_3_2 (pc := 11) d_Md_odds_11 ?_
    refine r_iconst (pc := 12) (v := 0) d_Md_odds_12 rfl ?_
    refine r_iconst (pc := 13) (v := 1) d_Md_odds_13 rfl ?_
    refine r_callS (pc := 14) (As := [.int p, .int 0, .int 1]) k_Md_120 sw_Md_within rfl (by decide) d_Md_odds_14 (c_Md_within p 0 1) rfl (Nat.le_of_ble_eq_true rfl) (by omega) (by omega) (by omega) (fun v S' I' J' hq => ?_)
    obtain ⟨rfl, rfl, rfl, rfl⟩ := hq
    refine r_if_ne (pc := 17) (tgt := 24) d_Md_odds_17 (by decide) (fun c2 => ?_) (fun c2 => ?_)
    · refine lda_n_3_0 (pc := 24) d_Md_odds_24 ?_
      refine r_iconst (pc := 25) (v := 0) d_Md_odds_25 rfl ?_
      refine ldi_n_3_1 (pc := 26) d_Md_odds_26 ?_
      refine r_callV (pc := 27) (As := [.int 0, .int q]) (k := 9) (N := 56) (T := T_Md) k_Md_307 im_Md_allWays se_Md_allWays rfl (by decide) rfl (by decide) d_Md_odds_27 hT (c_Md_allWays hM h (Or.inl rfl)) rfl (Nat.le_of_ble_eq_true rfl) (by omega) (by omega) (by omega) (fun v S' I2 J2 hq => ?_)
      obtain ⟨rfl, rfl, s2, -, o2, a, a1, a2, t2⟩ := hq
      refine lda_n_3_0 (pc := 30) d_Md_odds_30 ?_
      refine g_Md_285 (pc := 31) rfl d_Md_odds_31 (by assumption) ?_
      refine lda_n_3_0 (pc := 34) d_Md_odds_34 ?_
      refine g_Md_275 (pc := 35) rfl d_Md_odds_35 (by assumption) ?_
      rw [t2]
      refine ldi_n_3_2 (pc := 38) d_Md_odds_38 ?_
      refine r_callS (pc := 39) (As := [.long (J2 114 50), .long (lN a), .int p]) k_Md_329 sw_Md_part rfl (by decide) d_Md_odds_39 (c_Md_part (lN_ne0 a1 a2)) rfl (Nat.le_of_ble_eq_true rfl) (by omega) (by omega) (by omega) (fun v S' I' J' hq => ?_)
      obtain ⟨⟨r, rfl⟩, rfl, rfl, rfl⟩ := hq
      exact r_lret d_Md_odds_42 rfl (by omega) (by omega) (⟨_, rfl, rfl, s2, o2⟩)
    · refine r_ldc2 (pc := 20) cl_Md_327 d_Md_odds_20 ?_
      exact r_lret d_Md_odds_23 rfl (by omega) (by omega) (⟨_, rfl, rfl, mSame.rf, fun _ _ => rfl⟩)
theorem c_Md_mean {p : Int32} (hM : isMd S) (h : mDay I 9999) : qMet E y_Md_mean b_Md_mean 2 (some .long) 9 0 0 [.ref (qb E + 114), .int p] S I J (qAskL S I J) := by
  have hT := hM.1
  refine qMet.of (L := [some (.ref (qb E + 114)), some (.int p)]) (by decide +kernel) (Nat.le_of_ble_eq_true rfl) rfl ?_
  refine ldi_n_2_1 (pc := 0) d_Md_mean_0 ?_
  refine r_iconst (pc := 1) (v := 0) d_Md_mean_1 rfl ?_
  refine r_iconst (pc := 2) (v := 1) d_Md_mean_2 rfl ?_
  refine r_callS (pc := 3) (As := [.int p, .int 0, .int 1]) k_Md_120 sw_Md_within rfl (by decide) d_Md_mean_3 (c_Md_within p 0 1) rfl (Nat.le_of_ble_eq_true rfl) (by omega) (by omega) (by omega) (fun v S' I' J' hq => ?_)
  obtain ⟨rfl, rfl, rfl, rfl⟩ := hq
  refine r_if_ne (pc := 6) (tgt := 13) d_Md_mean_6 (by decide) (fun c2 => ?_) (fun c2 => ?_)
  · refine lda_n_2_0 (pc := 13) d_Md_mean_13 ?_
    refine r_iconst (pc := 14) (v := 0) d_Md_mean_14 rfl ?_
    refine r_iconst (pc := 15) (v := 0) d_Md_mean_15 rfl ?_
    refine r_callV (pc := 16) (As := [.int 0, .int 0]) (k := 9) (N := 56) (T := T_Md) k_Md_307 im_Md_allWays se_Md_allWays rfl (by decide) rfl (by decide) d_Md_mean_16 hT (c_Md_allWays hM h (Or.inl rfl)) rfl (Nat.le_of_ble_eq_true rfl) (by omega) (by omega) (by omega) (fun v S' I2 J2 hq => ?_)
    obtain ⟨rfl, rfl, s2, -, o2, a, a1, a2, t2⟩ := hq
    refine lda_n_2_0 (pc := 19) d_Md_mean_19 ?_
    refine g_Md_279 (pc := 20) rfl d_Md_mean_20 (by assumption) ?_
    refine lda_n_2_0 (pc := 23) d_Md_mean_23 ?_
    refine g_Md_275 (pc := 24) rfl d_Md_mean_24 (by assumption) ?_
    rw [t2]
    refine ldi_n_2_1 (pc := 27) d_Md_mean_27 ?_
    refine r_callS (pc := 28) (As := [.long (J2 114 52), .long (lN a), .int p]) k_Md_329 sw_Md_part rfl (by decide) d_Md_mean_28 (c_Md_part (lN_ne0 a1 a2)) rfl (Nat.le_of_ble_eq_true rfl) (by omega) (by omega) (by omega) (fun v S' I' J' hq => ?_)
    obtain ⟨⟨r, rfl⟩, rfl, rfl, rfl⟩ := hq
    exact r_lret d_Md_mean_31 rfl (by omega) (by omega) (⟨_, rfl, rfl, s2, o2⟩)
  · refine r_ldc2 (pc := 9) cl_Md_327 d_Md_mean_9 ?_
    exact r_lret d_Md_mean_12 rfl (by omega) (by omega) (⟨_, rfl, rfl, mSame.rf, fun _ _ => rfl⟩)
end G9
