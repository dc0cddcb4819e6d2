/-! the reference's plain calls, told exactly: the answer (ga_), the memory (gi_), the long memory (gj_) -/
theorem qplace_in {f : Nat → Int32} {x : Int32} {n : Nat} : ∀ j, j ≤ n → qplace f x n j = -5 ∨ ∃ k, k < n ∧ qplace f x n j = nI k ∧ f k = x := by
  intro j
  induction j with
  | zero => intro _; exact Or.inl rfl
  | succ j ih =>
    intro h
    rw [qplace]
    split
    · rename_i e
      exact Or.inr ⟨n - (j + 1), by omega, rfl, e⟩
    · exact ih (by omega)
section GP
variable {E : qE} {S : qSh} {I : qI} {J : qJ}
def mkept (s : Int32) (v : Int64) : Int64 := if s = 0 then v.toInt32.toInt8.toInt32.toInt64 else if s = 1 then v.toInt32.toInt16.toInt32.toInt64 else if s = 2 then v.toInt32.toInt64 else if s = 3 then v else if v = 0 then 0 else 1
def ga_Md_count (I : qI) (J : qJ)  (x : Int32) : Int32 := (if x = 0 then (I 114 0) else (if x = 1 then (I 114 17) else (if x = 2 then (I 114 8) else (if x = 3 then (I 114 27) else (if x = 4 then (I 114 31) else (if x = 5 then (I 114 34) else (if x = 6 then (I 114 11) else (if x = 7 then (I 114 37) else (-2)))))))))
def gi_Md_count (I : qI) (J : qJ)  (x : Int32) : qI := (if x = 0 then I else (if x = 1 then I else (if x = 2 then I else (if x = 3 then I else (if x = 4 then I else (if x = 5 then I else (if x = 6 then I else (if x = 7 then I else I))))))))
def gj_Md_count (I : qI) (J : qJ)  (x : Int32) : qJ := (if x = 0 then J else (if x = 1 then J else (if x = 2 then J else (if x = 3 then J else (if x = 4 then J else (if x = 5 then J else (if x = 6 then J else (if x = 7 then J else J))))))))
theorem c_Md_count {x : Int32} (hM : isMd S) : qMet E y_Md_count b_Md_count 2 (some .int) 0 0 0 [.ref (qb E + 114), .int x] S I J (fun r S' I' J' => r = some (.int (ga_Md_count I J x)) ∧ S = S' ∧ I' = gi_Md_count I J x ∧ J' = gj_Md_count I J x) := by
  refine qMet.of (L := [some (.ref (qb E + 114)), some (.int x)]) (by decide +kernel) (Nat.le_of_ble_eq_true rfl) rfl ?_
  refine ldi_n_2_1 (pc := 0) d_Md_count_0 ?_
  by_cases e1 : x = 0
  · refine r_tableIn (pc := 1) (off := 47) (tgt := 48) d_Md_count_1 (by rw [e1]; decide) (by rw [e1]; decide) (by rw [e1]; decide +kernel) (by decide) ?_
    refine lda_n_2_0 (pc := 48) d_Md_count_48 ?_
    refine g_Md_117 (pc := 49) rfl d_Md_count_49 (hM.1) ?_
    exact r_iret d_Md_count_52 rfl (by omega) (by omega) ⟨(by first | (rw [ga_Md_count, if_pos e1]; done) | (rw [ga_Md_count, if_pos e1]; subst_vars; rfl) | (unfold ga_Md_count; subst_vars; rfl)), rfl, (by first | (rw [gi_Md_count, if_pos e1]; done) | (rw [gi_Md_count, if_pos e1]; subst_vars; rfl) | (unfold gi_Md_count; subst_vars; rfl)), (by first | (rw [gj_Md_count, if_pos e1]; done) | (rw [gj_Md_count, if_pos e1]; subst_vars; rfl) | (unfold gj_Md_count; subst_vars; rfl))⟩
  · by_cases e2 : x = 1
    · refine r_tableIn (pc := 1) (off := 52) (tgt := 53) d_Md_count_1 (by rw [e2]; decide) (by rw [e2]; decide) (by rw [e2]; decide +kernel) (by decide) ?_
      refine lda_n_2_0 (pc := 53) d_Md_count_53 ?_
      refine g_Md_215 (pc := 54) rfl d_Md_count_54 (hM.1) ?_
      exact r_iret d_Md_count_57 rfl (by omega) (by omega) ⟨(by first | (rw [ga_Md_count, if_neg e1, if_pos e2]; done) | (rw [ga_Md_count, if_neg e1, if_pos e2]; subst_vars; rfl) | (unfold ga_Md_count; subst_vars; rfl)), rfl, (by first | (rw [gi_Md_count, if_neg e1, if_pos e2]; done) | (rw [gi_Md_count, if_neg e1, if_pos e2]; subst_vars; rfl) | (unfold gi_Md_count; subst_vars; rfl)), (by first | (rw [gj_Md_count, if_neg e1, if_pos e2]; done) | (rw [gj_Md_count, if_neg e1, if_pos e2]; subst_vars; rfl) | (unfold gj_Md_count; subst_vars; rfl))⟩
    · by_cases e3 : x = 2
      · refine r_tableIn (pc := 1) (off := 57) (tgt := 58) d_Md_count_1 (by rw [e3]; decide) (by rw [e3]; decide) (by rw [e3]; decide +kernel) (by decide) ?_
        refine lda_n_2_0 (pc := 58) d_Md_count_58 ?_
        refine g_Md_124 (pc := 59) rfl d_Md_count_59 (hM.1) ?_
        exact r_iret d_Md_count_62 rfl (by omega) (by omega) ⟨(by first | (rw [ga_Md_count, if_neg e1, if_neg e2, if_pos e3]; done) | (rw [ga_Md_count, if_neg e1, if_neg e2, if_pos e3]; subst_vars; rfl) | (unfold ga_Md_count; subst_vars; rfl)), rfl, (by first | (rw [gi_Md_count, if_neg e1, if_neg e2, if_pos e3]; done) | (rw [gi_Md_count, if_neg e1, if_neg e2, if_pos e3]; subst_vars; rfl) | (unfold gi_Md_count; subst_vars; rfl)), (by first | (rw [gj_Md_count, if_neg e1, if_neg e2, if_pos e3]; done) | (rw [gj_Md_count, if_neg e1, if_neg e2, if_pos e3]; subst_vars; rfl) | (unfold gj_Md_count; subst_vars; rfl))⟩
      · by_cases e4 : x = 3
        · refine r_tableIn (pc := 1) (off := 62) (tgt := 63) d_Md_count_1 (by rw [e4]; decide) (by rw [e4]; decide) (by rw [e4]; decide +kernel) (by decide) ?_
          refine lda_n_2_0 (pc := 63) d_Md_count_63 ?_
          refine g_Md_314 (pc := 64) rfl d_Md_count_64 (hM.1) ?_
          exact r_iret d_Md_count_67 rfl (by omega) (by omega) ⟨(by first | (rw [ga_Md_count, if_neg e1, if_neg e2, if_neg e3, if_pos e4]; done) | (rw [ga_Md_count, if_neg e1, if_neg e2, if_neg e3, if_pos e4]; subst_vars; rfl) | (unfold ga_Md_count; subst_vars; rfl)), rfl, (by first | (rw [gi_Md_count, if_neg e1, if_neg e2, if_neg e3, if_pos e4]; done) | (rw [gi_Md_count, if_neg e1, if_neg e2, if_neg e3, if_pos e4]; subst_vars; rfl) | (unfold gi_Md_count; subst_vars; rfl)), (by first | (rw [gj_Md_count, if_neg e1, if_neg e2, if_neg e3, if_pos e4]; done) | (rw [gj_Md_count, if_neg e1, if_neg e2, if_neg e3, if_pos e4]; subst_vars; rfl) | (unfold gj_Md_count; subst_vars; rfl))⟩
        · by_cases e5 : x = 4
          · refine r_tableIn (pc := 1) (off := 67) (tgt := 68) d_Md_count_1 (by rw [e5]; decide) (by rw [e5]; decide) (by rw [e5]; decide +kernel) (by decide) ?_
            refine lda_n_2_0 (pc := 68) d_Md_count_68 ?_
            refine g_Md_333 (pc := 69) rfl d_Md_count_69 (hM.1) ?_
            exact r_iret d_Md_count_72 rfl (by omega) (by omega) ⟨(by first | (rw [ga_Md_count, if_neg e1, if_neg e2, if_neg e3, if_neg e4, if_pos e5]; done) | (rw [ga_Md_count, if_neg e1, if_neg e2, if_neg e3, if_neg e4, if_pos e5]; subst_vars; rfl) | (unfold ga_Md_count; subst_vars; rfl)), rfl, (by first | (rw [gi_Md_count, if_neg e1, if_neg e2, if_neg e3, if_neg e4, if_pos e5]; done) | (rw [gi_Md_count, if_neg e1, if_neg e2, if_neg e3, if_neg e4, if_pos e5]; subst_vars; rfl) | (unfold gi_Md_count; subst_vars; rfl)), (by first | (rw [gj_Md_count, if_neg e1, if_neg e2, if_neg e3, if_neg e4, if_pos e5]; done) | (rw [gj_Md_count, if_neg e1, if_neg e2, if_neg e3, if_neg e4, if_pos e5]; subst_vars; rfl) | (unfold gj_Md_count; subst_vars; rfl))⟩
          · by_cases e6 : x = 5
            · refine r_tableIn (pc := 1) (off := 72) (tgt := 73) d_Md_count_1 (by rw [e6]; decide) (by rw [e6]; decide) (by rw [e6]; decide +kernel) (by decide) ?_
              refine lda_n_2_0 (pc := 73) d_Md_count_73 ?_
              refine g_Md_336 (pc := 74) rfl d_Md_count_74 (hM.1) ?_
              exact r_iret d_Md_count_77 rfl (by omega) (by omega) ⟨(by first | (rw [ga_Md_count, if_neg e1, if_neg e2, if_neg e3, if_neg e4, if_neg e5, if_pos e6]; done) | (rw [ga_Md_count, if_neg e1, if_neg e2, if_neg e3, if_neg e4, if_neg e5, if_pos e6]; subst_vars; rfl) | (unfold ga_Md_count; subst_vars; rfl)), rfl, (by first | (rw [gi_Md_count, if_neg e1, if_neg e2, if_neg e3, if_neg e4, if_neg e5, if_pos e6]; done) | (rw [gi_Md_count, if_neg e1, if_neg e2, if_neg e3, if_neg e4, if_neg e5, if_pos e6]; subst_vars; rfl) | (unfold gi_Md_count; subst_vars; rfl)), (by first | (rw [gj_Md_count, if_neg e1, if_neg e2, if_neg e3, if_neg e4, if_neg e5, if_pos e6]; done) | (rw [gj_Md_count, if_neg e1, if_neg e2, if_neg e3, if_neg e4, if_neg e5, if_pos e6]; subst_vars; rfl) | (unfold gj_Md_count; subst_vars; rfl))⟩
            · by_cases e7 : x = 6
              · refine r_tableIn (pc := 1) (off := 77) (tgt := 78) d_Md_count_1 (by rw [e7]; decide) (by rw [e7]; decide) (by rw [e7]; decide +kernel) (by decide) ?_
                refine lda_n_2_0 (pc := 78) d_Md_count_78 ?_
                refine g_Md_143 (pc := 79) rfl d_Md_count_79 (hM.1) ?_
                exact r_iret d_Md_count_82 rfl (by omega) (by omega) ⟨(by first | (rw [ga_Md_count, if_neg e1, if_neg e2, if_neg e3, if_neg e4, if_neg e5, if_neg e6, if_pos e7]; done) | (rw [ga_Md_count, if_neg e1, if_neg e2, if_neg e3, if_neg e4, if_neg e5, if_neg e6, if_pos e7]; subst_vars; rfl) | (unfold ga_Md_count; subst_vars; rfl)), rfl, (by first | (rw [gi_Md_count, if_neg e1, if_neg e2, if_neg e3, if_neg e4, if_neg e5, if_neg e6, if_pos e7]; done) | (rw [gi_Md_count, if_neg e1, if_neg e2, if_neg e3, if_neg e4, if_neg e5, if_neg e6, if_pos e7]; subst_vars; rfl) | (unfold gi_Md_count; subst_vars; rfl)), (by first | (rw [gj_Md_count, if_neg e1, if_neg e2, if_neg e3, if_neg e4, if_neg e5, if_neg e6, if_pos e7]; done) | (rw [gj_Md_count, if_neg e1, if_neg e2, if_neg e3, if_neg e4, if_neg e5, if_neg e6, if_pos e7]; subst_vars; rfl) | (unfold gj_Md_count; subst_vars; rfl))⟩
              · by_cases e8 : x = 7
                · refine r_tableIn (pc := 1) (off := 82) (tgt := 83) d_Md_count_1 (by rw [e8]; decide) (by rw [e8]; decide) (by rw [e8]; decide +kernel) (by decide) ?_
                  refine lda_n_2_0 (pc := 83) d_Md_count_83 ?_
                  refine g_Md_342 (pc := 84) rfl d_Md_count_84 (hM.1) ?_
                  exact r_iret d_Md_count_87 rfl (by omega) (by omega) ⟨(by first | (rw [ga_Md_count, if_neg e1, if_neg e2, if_neg e3, if_neg e4, if_neg e5, if_neg e6, if_neg e7, if_pos e8]; done) | (rw [ga_Md_count, if_neg e1, if_neg e2, if_neg e3, if_neg e4, if_neg e5, if_neg e6, if_neg e7, if_pos e8]; subst_vars; rfl) | (unfold ga_Md_count; subst_vars; rfl)), rfl, (by first | (rw [gi_Md_count, if_neg e1, if_neg e2, if_neg e3, if_neg e4, if_neg e5, if_neg e6, if_neg e7, if_pos e8]; done) | (rw [gi_Md_count, if_neg e1, if_neg e2, if_neg e3, if_neg e4, if_neg e5, if_neg e6, if_neg e7, if_pos e8]; subst_vars; rfl) | (unfold gi_Md_count; subst_vars; rfl)), (by first | (rw [gj_Md_count, if_neg e1, if_neg e2, if_neg e3, if_neg e4, if_neg e5, if_neg e6, if_neg e7, if_pos e8]; done) | (rw [gj_Md_count, if_neg e1, if_neg e2, if_neg e3, if_neg e4, if_neg e5, if_neg e6, if_neg e7, if_pos e8]; subst_vars; rfl) | (unfold gj_Md_count; subst_vars; rfl))⟩
                · refine r_tableOut (pc := 1) (tgt := 88) d_Md_count_1 (by simp only [← Int32.toInt_inj, Int32.reduceToInt] at e1 e2 e3 e4 e5 e6 e7 e8; omega) (by decide) ?_
                  refine r_bipush (pc := 88) (v := (-2)) d_Md_count_88 rfl ?_
                  exact r_iret d_Md_count_90 rfl (by omega) (by omega) ⟨(by first | (rw [ga_Md_count, if_neg e1, if_neg e2, if_neg e3, if_neg e4, if_neg e5, if_neg e6, if_neg e7, if_neg e8]; done) | (rw [ga_Md_count, if_neg e1, if_neg e2, if_neg e3, if_neg e4, if_neg e5, if_neg e6, if_neg e7, if_neg e8]; subst_vars; rfl) | (unfold ga_Md_count; subst_vars; rfl)), rfl, (by first | (rw [gi_Md_count, if_neg e1, if_neg e2, if_neg e3, if_neg e4, if_neg e5, if_neg e6, if_neg e7, if_neg e8]; done) | (rw [gi_Md_count, if_neg e1, if_neg e2, if_neg e3, if_neg e4, if_neg e5, if_neg e6, if_neg e7, if_neg e8]; subst_vars; rfl) | (unfold gi_Md_count; subst_vars; rfl)), (by first | (rw [gj_Md_count, if_neg e1, if_neg e2, if_neg e3, if_neg e4, if_neg e5, if_neg e6, if_neg e7, if_neg e8]; done) | (rw [gj_Md_count, if_neg e1, if_neg e2, if_neg e3, if_neg e4, if_neg e5, if_neg e6, if_neg e7, if_neg e8]; subst_vars; rfl) | (unfold gj_Md_count; subst_vars; rfl))⟩
def ga_Md_feed (I : qI) (J : qJ)  (x : Int32) : Int32 := (if (qwithin x 0 127) = 0 then (-2) else (if (I 114 11) = 100 then (-4) else ((I 114 11) + 1)))
def gi_Md_feed (I : qI) (J : qJ)  (x : Int32) : qI := (if (qwithin x 0 127) = 0 then I else (if (I 114 11) = 100 then I else (qup (qup I 114 11 ((I 114 11) + 1)) 123 ((I 114 11)).toNatClampNeg x)))
def gj_Md_feed (I : qI) (J : qJ)  (x : Int32) : qJ := (if (qwithin x 0 127) = 0 then J else (if (I 114 11) = 100 then J else J))
theorem c_Md_feed {x : Int32} {z : Nat} (hM : isMd S) (hz : I 114 11 = nI z) (hz9 : z ≤ 100) : qMet E y_Md_feed b_Md_feed 2 (some .int) 1 0 0 [.ref (qb E + 114), .int x] S I J (fun r S' I' J' => r = some (.int (ga_Md_feed I J x)) ∧ S = S' ∧ I' = gi_Md_feed I J x ∧ J' = gj_Md_feed I J x) := by
  refine qMet.of (L := [some (.ref (qb E + 114)), some (.int x)]) (by decide +kernel) (Nat.le_of_ble_eq_true rfl) rfl ?_
  refine ldi_n_2_1 (pc := 0) d_Md_feed_0 ?_
  refine r_iconst (pc := 1) (v := 0) d_Md_feed_1 rfl ?_
  refine r_bipush (pc := 2) (v := 127) d_Md_feed_2 rfl ?_
  refine r_callS (pc := 4) (As := [.int x, .int 0, .int 127]) k_Md_120 sw_Md_within rfl (by decide) d_Md_feed_4 (c_Md_within _ _ _) rfl (Nat.le_of_ble_eq_true rfl) (by omega) (by omega) (by omega) (fun v' S' I' J' hq => ?_)
  obtain ⟨rfl, rfl, rfl, rfl⟩ := hq
  refine r_if_ne (pc := 7) (tgt := 13) d_Md_feed_7 (by decide) (fun c1 => ?_) (fun c1 => ?_)
  · refine lda_n_2_0 (pc := 13) d_Md_feed_13 ?_
    refine g_Md_143 (pc := 14) rfl d_Md_feed_14 (hM.1) ?_
    refine r_bipush (pc := 17) (v := 100) d_Md_feed_17 rfl ?_
    refine r_icmp_ne (pc := 19) (tgt := 25) d_Md_feed_19 (by decide) (fun c2 => ?_) (fun c2 => ?_)
    · have hin : vp_in (I 114 11) 100 := by
        rw [hz]
        refine vp_in_nI ?_ (by omega)
        rcases Nat.lt_or_ge z 100 with q | q
        · exact q
        · exact absurd (by rw [hz, show z = 100 by omega]; rfl) c2
      refine lda_n_2_0 (pc := 25) d_Md_feed_25 ?_
      refine g_Md_36 (pc := 26) rfl d_Md_feed_26 (hM.1) (hM.r 8 rfl) ?_
      refine lda_n_2_0 (pc := 29) d_Md_feed_29 ?_
      refine r_dup (pc := 30) d_Md_feed_30 rfl ?_
      refine g_Md_143 (pc := 31) rfl d_Md_feed_31 (hM.1) ?_
      refine r_dup_x1 (pc := 34) d_Md_feed_34 rfl rfl ?_
      refine r_iconst (pc := 35) (v := 1) d_Md_feed_35 rfl ?_
      refine r_iadd (pc := 36) d_Md_feed_36 ?_
      refine p_Md_143 (pc := 37) rfl d_Md_feed_37 (hM.1) ?_
      refine r_nmI (fun I4 hI3 => ?_)
      refine ldi_n_2_1 (pc := 40) d_Md_feed_40 ?_
      refine r_iast (pc := 41) d_Md_feed_41 (hM.a 8 rfl) (hin) ?_
      refine r_nmI (fun I6 hI5 => ?_)
      refine lda_n_2_0 (pc := 42) d_Md_feed_42 ?_
      refine g_Md_143 (pc := 43) rfl d_Md_feed_43 (hM.1) ?_
      refine r_top (v := ((I 114 11) + 1)) (by rw [hI5, qup_o (by decide), hI3, qup_at]) ?_
      exact r_iret d_Md_feed_46 rfl (by omega) (by omega) ⟨(by first | (rw [ga_Md_feed, if_neg c1, if_neg c2]; done) | (rw [ga_Md_feed, if_neg c1, if_neg c2]; subst_vars; rfl) | (unfold ga_Md_feed; subst_vars; rfl)), rfl, (by first | (rw [gi_Md_feed, if_neg c1, if_neg c2]; done) | (rw [gi_Md_feed, if_neg c1, if_neg c2]; subst_vars; rfl) | (unfold gi_Md_feed; subst_vars; rfl)), (by first | (rw [gj_Md_feed, if_neg c1, if_neg c2]; done) | (rw [gj_Md_feed, if_neg c1, if_neg c2]; subst_vars; rfl) | (unfold gj_Md_feed; subst_vars; rfl))⟩
    · refine r_bipush (pc := 22) (v := (-4)) d_Md_feed_22 rfl ?_
      exact r_iret d_Md_feed_24 rfl (by omega) (by omega) ⟨(by first | (rw [ga_Md_feed, if_neg c1, if_pos c2]; done) | (rw [ga_Md_feed, if_neg c1, if_pos c2]; subst_vars; rfl) | (unfold ga_Md_feed; subst_vars; rfl)), rfl, (by first | (rw [gi_Md_feed, if_neg c1, if_pos c2]; done) | (rw [gi_Md_feed, if_neg c1, if_pos c2]; subst_vars; rfl) | (unfold gi_Md_feed; subst_vars; rfl)), (by first | (rw [gj_Md_feed, if_neg c1, if_pos c2]; done) | (rw [gj_Md_feed, if_neg c1, if_pos c2]; subst_vars; rfl) | (unfold gj_Md_feed; subst_vars; rfl))⟩
  · refine r_bipush (pc := 10) (v := (-2)) d_Md_feed_10 rfl ?_
    exact r_iret d_Md_feed_12 rfl (by omega) (by omega) ⟨(by first | (rw [ga_Md_feed, if_pos c1]; done) | (rw [ga_Md_feed, if_pos c1]; subst_vars; rfl) | (unfold ga_Md_feed; subst_vars; rfl)), rfl, (by first | (rw [gi_Md_feed, if_pos c1]; done) | (rw [gi_Md_feed, if_pos c1]; subst_vars; rfl) | (unfold gi_Md_feed; subst_vars; rfl)), (by first | (rw [gj_Md_feed, if_pos c1]; done) | (rw [gj_Md_feed, if_pos c1]; subst_vars; rfl) | (unfold gj_Md_feed; subst_vars; rfl))⟩
def ga_Md_set (I : qI) (J : qJ)  (p : Int32) (x : Int32) (n : Int32) : Int32 := (if (qwithin p 0 (I 114 0 - 1)) = 0 then (-1) else (if (qwithin x 0 2) = 0 then (-1) else (if x = 2 then (if (qwithin n 0 99999) = 0 then (-2) else (if x = 0 then (if x = 0 then (I 117 (p).toNatClampNeg) else (if x = 1 then (I 117 (p).toNatClampNeg) else (I 117 (p).toNatClampNeg))) else (if x = 1 then (if x = 0 then (I 118 (p).toNatClampNeg) else (if x = 1 then (I 118 (p).toNatClampNeg) else (I 118 (p).toNatClampNeg))) else (if x = 0 then (I 119 (p).toNatClampNeg) else (if x = 1 then (I 119 (p).toNatClampNeg) else (I 119 (p).toNatClampNeg)))))) else (if (qwithin n 0 99) = 0 then (-2) else (if x = 0 then (if x = 0 then (I 117 (p).toNatClampNeg) else (if x = 1 then (I 117 (p).toNatClampNeg) else (I 117 (p).toNatClampNeg))) else (if x = 1 then (if x = 0 then (I 118 (p).toNatClampNeg) else (if x = 1 then (I 118 (p).toNatClampNeg) else (I 118 (p).toNatClampNeg))) else (if x = 0 then (I 119 (p).toNatClampNeg) else (if x = 1 then (I 119 (p).toNatClampNeg) else (I 119 (p).toNatClampNeg)))))))))
def gi_Md_set (I : qI) (J : qJ)  (p : Int32) (x : Int32) (n : Int32) : qI := (if (qwithin p 0 (I 114 0 - 1)) = 0 then I else (if (qwithin x 0 2) = 0 then I else (if x = 2 then (if (qwithin n 0 99999) = 0 then I else (if x = 0 then (if x = 0 then (qup I 117 (p).toNatClampNeg n) else (if x = 1 then (qup I 118 (p).toNatClampNeg n) else (qup I 119 (p).toNatClampNeg n))) else (if x = 1 then (if x = 0 then (qup I 117 (p).toNatClampNeg n) else (if x = 1 then (qup I 118 (p).toNatClampNeg n) else (qup I 119 (p).toNatClampNeg n))) else (if x = 0 then (qup I 117 (p).toNatClampNeg n) else (if x = 1 then (qup I 118 (p).toNatClampNeg n) else (qup I 119 (p).toNatClampNeg n)))))) else (if (qwithin n 0 99) = 0 then I else (if x = 0 then (if x = 0 then (qup I 117 (p).toNatClampNeg n) else (if x = 1 then (qup I 118 (p).toNatClampNeg n) else (qup I 119 (p).toNatClampNeg n))) else (if x = 1 then (if x = 0 then (qup I 117 (p).toNatClampNeg n) else (if x = 1 then (qup I 118 (p).toNatClampNeg n) else (qup I 119 (p).toNatClampNeg n))) else (if x = 0 then (qup I 117 (p).toNatClampNeg n) else (if x = 1 then (qup I 118 (p).toNatClampNeg n) else (qup I 119 (p).toNatClampNeg n)))))))))
def gj_Md_set (I : qI) (J : qJ)  (p : Int32) (x : Int32) (n : Int32) : qJ := (if (qwithin p 0 (I 114 0 - 1)) = 0 then J else (if (qwithin x 0 2) = 0 then J else (if x = 2 then (if (qwithin n 0 99999) = 0 then J else (if x = 0 then (if x = 0 then J else (if x = 1 then J else J)) else (if x = 1 then (if x = 0 then J else (if x = 1 then J else J)) else (if x = 0 then J else (if x = 1 then J else J))))) else (if (qwithin n 0 99) = 0 then J else (if x = 0 then (if x = 0 then J else (if x = 1 then J else J)) else (if x = 1 then (if x = 0 then J else (if x = 1 then J else J)) else (if x = 0 then J else (if x = 1 then J else J))))))))
theorem c_Md_set {p x n : Int32} {c : Nat} (hM : isMd S) (hc : I 114 0 = nI c) (hc6 : c ≤ 6) : qMet E y_Md_set b_Md_set 5 (some .int) 2 0 0 [.ref (qb E + 114), .int p, .int x, .int n] S I J (fun r S' I' J' => r = some (.int (ga_Md_set I J p x n)) ∧ S = S' ∧ I' = gi_Md_set I J p x n ∧ J' = gj_Md_set I J p x n) := by
  refine qMet.of (L := [some (.ref (qb E + 114)), some (.int p), some (.int x), some (.int n), none]) (by decide +kernel) (Nat.le_of_ble_eq_true rfl) rfl ?_
  refine lda_n_5_0 (pc := 0) d_Md_set_0 ?_
  refine ldi_n_5_1 (pc := 1) d_Md_set_1 ?_
  refine r_callV (pc := 2) (As := [.int p]) (k := 9) (N := 56) (T := T_Md) k_Md_127 im_Md_isOne se_Md_isOne rfl (by decide) rfl (by decide) d_Md_set_2 hM.1 (c_Md_isOne hM) rfl (Nat.le_of_ble_eq_true rfl) (by omega) (by omega) (by omega) (fun v' S' I' J' hq => ?_)
  obtain ⟨rfl, rfl, rfl, rfl⟩ := hq
  refine r_if_eq (pc := 5) (tgt := 17) d_Md_set_5 (by decide) (fun c1 => ?_) (fun c1 => ?_)
  · refine r_iconst (pc := 17) (v := (-1)) d_Md_set_17 rfl ?_
    exact r_iret d_Md_set_18 rfl (by omega) (by omega) ⟨(by first | (rw [ga_Md_set, if_pos c1]; done) | (rw [ga_Md_set, if_pos c1]; subst_vars; rfl) | (unfold ga_Md_set; subst_vars; rfl)), rfl, (by first | (rw [gi_Md_set, if_pos c1]; done) | (rw [gi_Md_set, if_pos c1]; subst_vars; rfl) | (unfold gi_Md_set; subst_vars; rfl)), (by first | (rw [gj_Md_set, if_pos c1]; done) | (rw [gj_Md_set, if_pos c1]; subst_vars; rfl) | (unfold gj_Md_set; subst_vars; rfl))⟩
  · obtain ⟨m, hm, em⟩ := qisM_y (show c < 2 ^ 31 by omega) (by rw [← hc]; exact c1)
    refine ldi_n_5_2 (pc := 8) d_Md_set_8 ?_
    refine r_iconst (pc := 9) (v := 0) d_Md_set_9 rfl ?_
    refine r_iconst (pc := 10) (v := 2) d_Md_set_10 rfl ?_
    refine r_callS (pc := 11) (As := [.int x, .int 0, .int 2]) k_Md_120 sw_Md_within rfl (by decide) d_Md_set_11 (c_Md_within _ _ _) rfl (Nat.le_of_ble_eq_true rfl) (by omega) (by omega) (by omega) (fun v' S' I' J' hq => ?_)
    obtain ⟨rfl, rfl, rfl, rfl⟩ := hq
    refine r_if_ne (pc := 14) (tgt := 19) d_Md_set_14 (by decide) (fun c2 => ?_) (fun c2 => ?_)
    · refine ldi_n_5_3 (pc := 19) d_Md_set_19 ?_
      refine r_iconst (pc := 20) (v := 0) d_Md_set_20 rfl ?_
      refine ldi_n_5_2 (pc := 21) d_Md_set_21 ?_
      refine r_iconst (pc := 22) (v := 2) d_Md_set_22 rfl ?_
      refine r_icmp_ne (pc := 23) (tgt := 31) d_Md_set_23 (by decide) (fun c3 => ?_) (fun c3 => ?_)
      · refine r_bipush (pc := 31) (v := 99) d_Md_set_31 rfl ?_
        refine r_callS (pc := 33) (As := [.int n, .int 0, .int 99]) k_Md_120 sw_Md_within rfl (by decide) d_Md_set_33 (c_Md_within _ _ _) rfl (Nat.le_of_ble_eq_true rfl) (by omega) (by omega) (by omega) (fun v' S' I' J' hq => ?_)
        obtain ⟨rfl, rfl, rfl, rfl⟩ := hq
        refine r_if_ne (pc := 36) (tgt := 42) d_Md_set_36 (by decide) (fun c4 => ?_) (fun c4 => ?_)
        · refine ldi_n_5_2 (pc := 42) d_Md_set_42 ?_
          refine r_if_ne (pc := 43) (tgt := 55) d_Md_set_43 (by decide) (fun c5 => ?_) (fun c5 => ?_)
          · refine ldi_n_5_2 (pc := 55) d_Md_set_55 ?_
            refine r_iconst (pc := 56) (v := 1) d_Md_set_56 rfl ?_
            refine r_icmp_ne (pc := 57) (tgt := 69) d_Md_set_57 (by decide) (fun c6 => ?_) (fun c6 => ?_)
            · refine lda_n_5_0 (pc := 69) d_Md_set_69 ?_
              refine g_Md_24 (pc := 70) rfl d_Md_set_70 (hM.1) (hM.r 4 rfl) ?_
              refine ldi_n_5_1 (pc := 73) d_Md_set_73 ?_
              refine r_iald (pc := 74) d_Md_set_74 (hM.a 4 rfl) (by rw [em]; exact vp_in_nI (by omega) (by omega)) ?_
              refine sti_5_4 (pc := 75) d_Md_set_75 rfl ?_
              refine ldi_n_5_2 (pc := 77) d_Md_set_77 ?_
              refine r_if_ne (pc := 78) (tgt := 91) d_Md_set_78 (by decide) (fun c7 => ?_) (fun c7 => ?_)
              · refine ldi_n_5_2 (pc := 91) d_Md_set_91 ?_
                refine r_iconst (pc := 92) (v := 1) d_Md_set_92 rfl ?_
                refine r_icmp_ne (pc := 93) (tgt := 106) d_Md_set_93 (by decide) (fun c8 => ?_) (fun c8 => ?_)
                · refine lda_n_5_0 (pc := 106) d_Md_set_106 ?_
                  refine g_Md_24 (pc := 107) rfl d_Md_set_107 (hM.1) (hM.r 4 rfl) ?_
                  refine ldi_n_5_1 (pc := 110) d_Md_set_110 ?_
                  refine ldi_n_5_3 (pc := 111) d_Md_set_111 ?_
                  refine r_iast (pc := 112) d_Md_set_112 (hM.a 4 rfl) (by rw [em]; exact vp_in_nI (by omega) (by omega)) ?_
                  refine r_nmI (fun I10 hI9 => ?_)
                  refine ldi_5_4 (pc := 113) d_Md_set_113 ?_
                  exact r_iret d_Md_set_115 rfl (by omega) (by omega) ⟨(by first | (rw [ga_Md_set, if_neg c1, if_neg c2, if_neg c3, if_neg c4, if_neg c5, if_neg c6, if_neg c7, if_neg c8]; done) | (rw [ga_Md_set, if_neg c1, if_neg c2, if_neg c3, if_neg c4, if_neg c5, if_neg c6, if_neg c7, if_neg c8]; subst_vars; rfl) | (unfold ga_Md_set; subst_vars; rfl)), rfl, (by first | (rw [gi_Md_set, if_neg c1, if_neg c2, if_neg c3, if_neg c4, if_neg c5, if_neg c6, if_neg c7, if_neg c8]; done) | (rw [gi_Md_set, if_neg c1, if_neg c2, if_neg c3, if_neg c4, if_neg c5, if_neg c6, if_neg c7, if_neg c8]; subst_vars; rfl) | (unfold gi_Md_set; subst_vars; rfl)), (by first | (rw [gj_Md_set, if_neg c1, if_neg c2, if_neg c3, if_neg c4, if_neg c5, if_neg c6, if_neg c7, if_neg c8]; done) | (rw [gj_Md_set, if_neg c1, if_neg c2, if_neg c3, if_neg c4, if_neg c5, if_neg c6, if_neg c7, if_neg c8]; subst_vars; rfl) | (unfold gj_Md_set; subst_vars; rfl))⟩
                · refine lda_n_5_0 (pc := 96) d_Md_set_96 ?_
                  refine g_Md_21 (pc := 97) rfl d_Md_set_97 (hM.1) (hM.r 3 rfl) ?_
                  refine ldi_n_5_1 (pc := 100) d_Md_set_100 ?_
                  refine ldi_n_5_3 (pc := 101) d_Md_set_101 ?_
                  refine r_iast (pc := 102) d_Md_set_102 (hM.a 3 rfl) (by rw [em]; exact vp_in_nI (by omega) (by omega)) ?_
                  refine r_nmI (fun I12 hI11 => ?_)
                  refine r_goto (pc := 103) (tgt := 113) d_Md_set_103 (by decide) ?_
                  refine ldi_5_4 (pc := 113) d_Md_set_113 ?_
                  exact r_iret d_Md_set_115 rfl (by omega) (by omega) ⟨(by first | (rw [ga_Md_set, if_neg c1, if_neg c2, if_neg c3, if_neg c4, if_neg c5, if_neg c6, if_neg c7, if_pos c8]; done) | (rw [ga_Md_set, if_neg c1, if_neg c2, if_neg c3, if_neg c4, if_neg c5, if_neg c6, if_neg c7, if_pos c8]; subst_vars; rfl) | (unfold ga_Md_set; subst_vars; rfl)), rfl, (by first | (rw [gi_Md_set, if_neg c1, if_neg c2, if_neg c3, if_neg c4, if_neg c5, if_neg c6, if_neg c7, if_pos c8]; done) | (rw [gi_Md_set, if_neg c1, if_neg c2, if_neg c3, if_neg c4, if_neg c5, if_neg c6, if_neg c7, if_pos c8]; subst_vars; rfl) | (unfold gi_Md_set; subst_vars; rfl)), (by first | (rw [gj_Md_set, if_neg c1, if_neg c2, if_neg c3, if_neg c4, if_neg c5, if_neg c6, if_neg c7, if_pos c8]; done) | (rw [gj_Md_set, if_neg c1, if_neg c2, if_neg c3, if_neg c4, if_neg c5, if_neg c6, if_neg c7, if_pos c8]; subst_vars; rfl) | (unfold gj_Md_set; subst_vars; rfl))⟩
              · refine lda_n_5_0 (pc := 81) d_Md_set_81 ?_
                refine g_Md_18 (pc := 82) rfl d_Md_set_82 (hM.1) (hM.r 2 rfl) ?_
                refine ldi_n_5_1 (pc := 85) d_Md_set_85 ?_
                refine ldi_n_5_3 (pc := 86) d_Md_set_86 ?_
                refine r_iast (pc := 87) d_Md_set_87 (hM.a 2 rfl) (by rw [em]; exact vp_in_nI (by omega) (by omega)) ?_
                refine r_nmI (fun I14 hI13 => ?_)
                refine r_goto (pc := 88) (tgt := 113) d_Md_set_88 (by decide) ?_
                refine ldi_5_4 (pc := 113) d_Md_set_113 ?_
                exact r_iret d_Md_set_115 rfl (by omega) (by omega) ⟨(by first | (rw [ga_Md_set, if_neg c1, if_neg c2, if_neg c3, if_neg c4, if_neg c5, if_neg c6, if_pos c7]; done) | (rw [ga_Md_set, if_neg c1, if_neg c2, if_neg c3, if_neg c4, if_neg c5, if_neg c6, if_pos c7]; subst_vars; rfl) | (unfold ga_Md_set; subst_vars; rfl)), rfl, (by first | (rw [gi_Md_set, if_neg c1, if_neg c2, if_neg c3, if_neg c4, if_neg c5, if_neg c6, if_pos c7]; done) | (rw [gi_Md_set, if_neg c1, if_neg c2, if_neg c3, if_neg c4, if_neg c5, if_neg c6, if_pos c7]; subst_vars; rfl) | (unfold gi_Md_set; subst_vars; rfl)), (by first | (rw [gj_Md_set, if_neg c1, if_neg c2, if_neg c3, if_neg c4, if_neg c5, if_neg c6, if_pos c7]; done) | (rw [gj_Md_set, if_neg c1, if_neg c2, if_neg c3, if_neg c4, if_neg c5, if_neg c6, if_pos c7]; subst_vars; rfl) | (unfold gj_Md_set; subst_vars; rfl))⟩
            · refine lda_n_5_0 (pc := 60) d_Md_set_60 ?_
              refine g_Md_21 (pc := 61) rfl d_Md_set_61 (hM.1) (hM.r 3 rfl) ?_
              refine ldi_n_5_1 (pc := 64) d_Md_set_64 ?_
              refine r_iald (pc := 65) d_Md_set_65 (hM.a 3 rfl) (by rw [em]; exact vp_in_nI (by omega) (by omega)) ?_
              refine r_goto (pc := 66) (tgt := 75) d_Md_set_66 (by decide) ?_
              refine sti_5_4 (pc := 75) d_Md_set_75 rfl ?_
              refine ldi_n_5_2 (pc := 77) d_Md_set_77 ?_
              refine r_if_ne (pc := 78) (tgt := 91) d_Md_set_78 (by decide) (fun c15 => ?_) (fun c15 => ?_)
              · refine ldi_n_5_2 (pc := 91) d_Md_set_91 ?_
                refine r_iconst (pc := 92) (v := 1) d_Md_set_92 rfl ?_
                refine r_icmp_ne (pc := 93) (tgt := 106) d_Md_set_93 (by decide) (fun c16 => ?_) (fun c16 => ?_)
                · refine lda_n_5_0 (pc := 106) d_Md_set_106 ?_
                  refine g_Md_24 (pc := 107) rfl d_Md_set_107 (hM.1) (hM.r 4 rfl) ?_
                  refine ldi_n_5_1 (pc := 110) d_Md_set_110 ?_
                  refine ldi_n_5_3 (pc := 111) d_Md_set_111 ?_
                  refine r_iast (pc := 112) d_Md_set_112 (hM.a 4 rfl) (by rw [em]; exact vp_in_nI (by omega) (by omega)) ?_
                  refine r_nmI (fun I18 hI17 => ?_)
                  refine ldi_5_4 (pc := 113) d_Md_set_113 ?_
                  exact r_iret d_Md_set_115 rfl (by omega) (by omega) ⟨(by first | (rw [ga_Md_set, if_neg c1, if_neg c2, if_neg c3, if_neg c4, if_neg c5, if_pos c6, if_neg c15, if_neg c16]; done) | (rw [ga_Md_set, if_neg c1, if_neg c2, if_neg c3, if_neg c4, if_neg c5, if_pos c6, if_neg c15, if_neg c16]; subst_vars; rfl) | (unfold ga_Md_set; subst_vars; rfl)), rfl, (by first | (rw [gi_Md_set, if_neg c1, if_neg c2, if_neg c3, if_neg c4, if_neg c5, if_pos c6, if_neg c15, if_neg c16]; done) | (rw [gi_Md_set, if_neg c1, if_neg c2, if_neg c3, if_neg c4, if_neg c5, if_pos c6, if_neg c15, if_neg c16]; subst_vars; rfl) | (unfold gi_Md_set; subst_vars; rfl)), (by first | (rw [gj_Md_set, if_neg c1, if_neg c2, if_neg c3, if_neg c4, if_neg c5, if_pos c6, if_neg c15, if_neg c16]; done) | (rw [gj_Md_set, if_neg c1, if_neg c2, if_neg c3, if_neg c4, if_neg c5, if_pos c6, if_neg c15, if_neg c16]; subst_vars; rfl) | (unfold gj_Md_set; subst_vars; rfl))⟩
                · refine lda_n_5_0 (pc := 96) d_Md_set_96 ?_
                  refine g_Md_21 (pc := 97) rfl d_Md_set_97 (hM.1) (hM.r 3 rfl) ?_
                  refine ldi_n_5_1 (pc := 100) d_Md_set_100 ?_
                  refine ldi_n_5_3 (pc := 101) d_Md_set_101 ?_
                  refine r_iast (pc := 102) d_Md_set_102 (hM.a 3 rfl) (by rw [em]; exact vp_in_nI (by omega) (by omega)) ?_
                  refine r_nmI (fun I20 hI19 => ?_)
                  refine r_goto (pc := 103) (tgt := 113) d_Md_set_103 (by decide) ?_
                  refine ldi_5_4 (pc := 113) d_Md_set_113 ?_
                  exact r_iret d_Md_set_115 rfl (by omega) (by omega) ⟨(by first | (rw [ga_Md_set, if_neg c1, if_neg c2, if_neg c3, if_neg c4, if_neg c5, if_pos c6, if_neg c15, if_pos c16]; done) | (rw [ga_Md_set, if_neg c1, if_neg c2, if_neg c3, if_neg c4, if_neg c5, if_pos c6, if_neg c15, if_pos c16]; subst_vars; rfl) | (unfold ga_Md_set; subst_vars; rfl)), rfl, (by first | (rw [gi_Md_set, if_neg c1, if_neg c2, if_neg c3, if_neg c4, if_neg c5, if_pos c6, if_neg c15, if_pos c16]; done) | (rw [gi_Md_set, if_neg c1, if_neg c2, if_neg c3, if_neg c4, if_neg c5, if_pos c6, if_neg c15, if_pos c16]; subst_vars; rfl) | (unfold gi_Md_set; subst_vars; rfl)), (by first | (rw [gj_Md_set, if_neg c1, if_neg c2, if_neg c3, if_neg c4, if_neg c5, if_pos c6, if_neg c15, if_pos c16]; done) | (rw [gj_Md_set, if_neg c1, if_neg c2, if_neg c3, if_neg c4, if_neg c5, if_pos c6, if_neg c15, if_pos c16]; subst_vars; rfl) | (unfold gj_Md_set; subst_vars; rfl))⟩
              · refine lda_n_5_0 (pc := 81) d_Md_set_81 ?_
                refine g_Md_18 (pc := 82) rfl d_Md_set_82 (hM.1) (hM.r 2 rfl) ?_
                refine ldi_n_5_1 (pc := 85) d_Md_set_85 ?_
                refine ldi_n_5_3 (pc := 86) d_Md_set_86 ?_
                refine r_iast (pc := 87) d_Md_set_87 (hM.a 2 rfl) (by rw [em]; exact vp_in_nI (by omega) (by omega)) ?_
                refine r_nmI (fun I22 hI21 => ?_)
                refine r_goto (pc := 88) (tgt := 113) d_Md_set_88 (by decide) ?_
                refine ldi_5_4 (pc := 113) d_Md_set_113 ?_
                exact r_iret d_Md_set_115 rfl (by omega) (by omega) ⟨(by first | (rw [ga_Md_set, if_neg c1, if_neg c2, if_neg c3, if_neg c4, if_neg c5, if_pos c6, if_pos c15]; done) | (rw [ga_Md_set, if_neg c1, if_neg c2, if_neg c3, if_neg c4, if_neg c5, if_pos c6, if_pos c15]; subst_vars; rfl) | (unfold ga_Md_set; subst_vars; rfl)), rfl, (by first | (rw [gi_Md_set, if_neg c1, if_neg c2, if_neg c3, if_neg c4, if_neg c5, if_pos c6, if_pos c15]; done) | (rw [gi_Md_set, if_neg c1, if_neg c2, if_neg c3, if_neg c4, if_neg c5, if_pos c6, if_pos c15]; subst_vars; rfl) | (unfold gi_Md_set; subst_vars; rfl)), (by first | (rw [gj_Md_set, if_neg c1, if_neg c2, if_neg c3, if_neg c4, if_neg c5, if_pos c6, if_pos c15]; done) | (rw [gj_Md_set, if_neg c1, if_neg c2, if_neg c3, if_neg c4, if_neg c5, if_pos c6, if_pos c15]; subst_vars; rfl) | (unfold gj_Md_set; subst_vars; rfl))⟩
          · refine lda_n_5_0 (pc := 46) d_Md_set_46 ?_
            refine g_Md_18 (pc := 47) rfl d_Md_set_47 (hM.1) (hM.r 2 rfl) ?_
            refine ldi_n_5_1 (pc := 50) d_Md_set_50 ?_
            refine r_iald (pc := 51) d_Md_set_51 (hM.a 2 rfl) (by rw [em]; exact vp_in_nI (by omega) (by omega)) ?_
            refine r_goto (pc := 52) (tgt := 75) d_Md_set_52 (by decide) ?_
            refine sti_5_4 (pc := 75) d_Md_set_75 rfl ?_
            refine ldi_n_5_2 (pc := 77) d_Md_set_77 ?_
            refine r_if_ne (pc := 78) (tgt := 91) d_Md_set_78 (by decide) (fun c23 => ?_) (fun c23 => ?_)
            · refine ldi_n_5_2 (pc := 91) d_Md_set_91 ?_
              refine r_iconst (pc := 92) (v := 1) d_Md_set_92 rfl ?_
              refine r_icmp_ne (pc := 93) (tgt := 106) d_Md_set_93 (by decide) (fun c24 => ?_) (fun c24 => ?_)
              · refine lda_n_5_0 (pc := 106) d_Md_set_106 ?_
                refine g_Md_24 (pc := 107) rfl d_Md_set_107 (hM.1) (hM.r 4 rfl) ?_
                refine ldi_n_5_1 (pc := 110) d_Md_set_110 ?_
                refine ldi_n_5_3 (pc := 111) d_Md_set_111 ?_
                refine r_iast (pc := 112) d_Md_set_112 (hM.a 4 rfl) (by rw [em]; exact vp_in_nI (by omega) (by omega)) ?_
                refine r_nmI (fun I26 hI25 => ?_)
                refine ldi_5_4 (pc := 113) d_Md_set_113 ?_
                exact r_iret d_Md_set_115 rfl (by omega) (by omega) ⟨(by first | (rw [ga_Md_set, if_neg c1, if_neg c2, if_neg c3, if_neg c4, if_pos c5, if_neg c23, if_neg c24]; done) | (rw [ga_Md_set, if_neg c1, if_neg c2, if_neg c3, if_neg c4, if_pos c5, if_neg c23, if_neg c24]; subst_vars; rfl) | (unfold ga_Md_set; subst_vars; rfl)), rfl, (by first | (rw [gi_Md_set, if_neg c1, if_neg c2, if_neg c3, if_neg c4, if_pos c5, if_neg c23, if_neg c24]; done) | (rw [gi_Md_set, if_neg c1, if_neg c2, if_neg c3, if_neg c4, if_pos c5, if_neg c23, if_neg c24]; subst_vars; rfl) | (unfold gi_Md_set; subst_vars; rfl)), (by first | (rw [gj_Md_set, if_neg c1, if_neg c2, if_neg c3, if_neg c4, if_pos c5, if_neg c23, if_neg c24]; done) | (rw [gj_Md_set, if_neg c1, if_neg c2, if_neg c3, if_neg c4, if_pos c5, if_neg c23, if_neg c24]; subst_vars; rfl) | (unfold gj_Md_set; subst_vars; rfl))⟩
              · refine lda_n_5_0 (pc := 96) d_Md_set_96 ?_
                refine g_Md_21 (pc := 97) rfl d_Md_set_97 (hM.1) (hM.r 3 rfl) ?_
                refine ldi_n_5_1 (pc := 100) d_Md_set_100 ?_
                refine ldi_n_5_3 (pc := 101) d_Md_set_101 ?_
                refine r_iast (pc := 102) d_Md_set_102 (hM.a 3 rfl) (by rw [em]; exact vp_in_nI (by omega) (by omega)) ?_
                refine r_nmI (fun I28 hI27 => ?_)
                refine r_goto (pc := 103) (tgt := 113) d_Md_set_103 (by decide) ?_
                refine ldi_5_4 (pc := 113) d_Md_set_113 ?_
                exact r_iret d_Md_set_115 rfl (by omega) (by omega) ⟨(by first | (rw [ga_Md_set, if_neg c1, if_neg c2, if_neg c3, if_neg c4, if_pos c5, if_neg c23, if_pos c24]; done) | (rw [ga_Md_set, if_neg c1, if_neg c2, if_neg c3, if_neg c4, if_pos c5, if_neg c23, if_pos c24]; subst_vars; rfl) | (unfold ga_Md_set; subst_vars; rfl)), rfl, (by first | (rw [gi_Md_set, if_neg c1, if_neg c2, if_neg c3, if_neg c4, if_pos c5, if_neg c23, if_pos c24]; done) | (rw [gi_Md_set, if_neg c1, if_neg c2, if_neg c3, if_neg c4, if_pos c5, if_neg c23, if_pos c24]; subst_vars; rfl) | (unfold gi_Md_set; subst_vars; rfl)), (by first | (rw [gj_Md_set, if_neg c1, if_neg c2, if_neg c3, if_neg c4, if_pos c5, if_neg c23, if_pos c24]; done) | (rw [gj_Md_set, if_neg c1, if_neg c2, if_neg c3, if_neg c4, if_pos c5, if_neg c23, if_pos c24]; subst_vars; rfl) | (unfold gj_Md_set; subst_vars; rfl))⟩
            · refine lda_n_5_0 (pc := 81) d_Md_set_81 ?_
              refine g_Md_18 (pc := 82) rfl d_Md_set_82 (hM.1) (hM.r 2 rfl) ?_
              refine ldi_n_5_1 (pc := 85) d_Md_set_85 ?_
              refine ldi_n_5_3 (pc := 86) d_Md_set_86 ?_
              refine r_iast (pc := 87) d_Md_set_87 (hM.a 2 rfl) (by rw [em]; exact vp_in_nI (by omega) (by omega)) ?_
              refine r_nmI (fun I30 hI29 => ?_)
              refine r_goto (pc := 88) (tgt := 113) d_Md_set_88 (by decide) ?_
              refine ldi_5_4 (pc := 113) d_Md_set_113 ?_
              exact r_iret d_Md_set_115 rfl (by omega) (by omega) ⟨(by first | (rw [ga_Md_set, if_neg c1, if_neg c2, if_neg c3, if_neg c4, if_pos c5, if_pos c23]; done) | (rw [ga_Md_set, if_neg c1, if_neg c2, if_neg c3, if_neg c4, if_pos c5, if_pos c23]; subst_vars; rfl) | (unfold ga_Md_set; subst_vars; rfl)), rfl, (by first | (rw [gi_Md_set, if_neg c1, if_neg c2, if_neg c3, if_neg c4, if_pos c5, if_pos c23]; done) | (rw [gi_Md_set, if_neg c1, if_neg c2, if_neg c3, if_neg c4, if_pos c5, if_pos c23]; subst_vars; rfl) | (unfold gi_Md_set; subst_vars; rfl)), (by first | (rw [gj_Md_set, if_neg c1, if_neg c2, if_neg c3, if_neg c4, if_pos c5, if_pos c23]; done) | (rw [gj_Md_set, if_neg c1, if_neg c2, if_neg c3, if_neg c4, if_pos c5, if_pos c23]; subst_vars; rfl) | (unfold gj_Md_set; subst_vars; rfl))⟩
        · refine r_bipush (pc := 39) (v := (-2)) d_Md_set_39 rfl ?_
          exact r_iret d_Md_set_41 rfl (by omega) (by omega) ⟨(by first | (rw [ga_Md_set, if_neg c1, if_neg c2, if_neg c3, if_pos c4]; done) | (rw [ga_Md_set, if_neg c1, if_neg c2, if_neg c3, if_pos c4]; subst_vars; rfl) | (unfold ga_Md_set; subst_vars; rfl)), rfl, (by first | (rw [gi_Md_set, if_neg c1, if_neg c2, if_neg c3, if_pos c4]; done) | (rw [gi_Md_set, if_neg c1, if_neg c2, if_neg c3, if_pos c4]; subst_vars; rfl) | (unfold gi_Md_set; subst_vars; rfl)), (by first | (rw [gj_Md_set, if_neg c1, if_neg c2, if_neg c3, if_pos c4]; done) | (rw [gj_Md_set, if_neg c1, if_neg c2, if_neg c3, if_pos c4]; subst_vars; rfl) | (unfold gj_Md_set; subst_vars; rfl))⟩
      · refine r_ldc (pc := 26) ct_Md_142 d_Md_set_26 ?_
        refine r_goto (pc := 28) (tgt := 33) d_Md_set_28 (by decide) ?_
        refine r_callS (pc := 33) (As := [.int n, .int 0, .int 99999]) k_Md_120 sw_Md_within rfl (by decide) d_Md_set_33 (c_Md_within _ _ _) rfl (Nat.le_of_ble_eq_true rfl) (by omega) (by omega) (by omega) (fun v' S' I' J' hq => ?_)
        obtain ⟨rfl, rfl, rfl, rfl⟩ := hq
        refine r_if_ne (pc := 36) (tgt := 42) d_Md_set_36 (by decide) (fun c31 => ?_) (fun c31 => ?_)
        · refine ldi_n_5_2 (pc := 42) d_Md_set_42 ?_
          refine r_if_ne (pc := 43) (tgt := 55) d_Md_set_43 (by decide) (fun c32 => ?_) (fun c32 => ?_)
          · refine ldi_n_5_2 (pc := 55) d_Md_set_55 ?_
            refine r_iconst (pc := 56) (v := 1) d_Md_set_56 rfl ?_
            refine r_icmp_ne (pc := 57) (tgt := 69) d_Md_set_57 (by decide) (fun c33 => ?_) (fun c33 => ?_)
            · refine lda_n_5_0 (pc := 69) d_Md_set_69 ?_
              refine g_Md_24 (pc := 70) rfl d_Md_set_70 (hM.1) (hM.r 4 rfl) ?_
              refine ldi_n_5_1 (pc := 73) d_Md_set_73 ?_
              refine r_iald (pc := 74) d_Md_set_74 (hM.a 4 rfl) (by rw [em]; exact vp_in_nI (by omega) (by omega)) ?_
              refine sti_5_4 (pc := 75) d_Md_set_75 rfl ?_
              refine ldi_n_5_2 (pc := 77) d_Md_set_77 ?_
              refine r_if_ne (pc := 78) (tgt := 91) d_Md_set_78 (by decide) (fun c34 => ?_) (fun c34 => ?_)
              · refine ldi_n_5_2 (pc := 91) d_Md_set_91 ?_
                refine r_iconst (pc := 92) (v := 1) d_Md_set_92 rfl ?_
                refine r_icmp_ne (pc := 93) (tgt := 106) d_Md_set_93 (by decide) (fun c35 => ?_) (fun c35 => ?_)
                · refine lda_n_5_0 (pc := 106) d_Md_set_106 ?_
                  refine g_Md_24 (pc := 107) rfl d_Md_set_107 (hM.1) (hM.r 4 rfl) ?_
                  refine ldi_n_5_1 (pc := 110) d_Md_set_110 ?_
                  refine ldi_n_5_3 (pc := 111) d_Md_set_111 ?_
                  refine r_iast (pc := 112) d_Md_set_112 (hM.a 4 rfl) (by rw [em]; exact vp_in_nI (by omega) (by omega)) ?_
                  refine r_nmI (fun I37 hI36 => ?_)
                  refine ldi_5_4 (pc := 113) d_Md_set_113 ?_
                  exact r_iret d_Md_set_115 rfl (by omega) (by omega) ⟨(by first | (rw [ga_Md_set, if_neg c1, if_neg c2, if_pos c3, if_neg c31, if_neg c32, if_neg c33, if_neg c34, if_neg c35]; done) | (rw [ga_Md_set, if_neg c1, if_neg c2, if_pos c3, if_neg c31, if_neg c32, if_neg c33, if_neg c34, if_neg c35]; subst_vars; rfl) | (unfold ga_Md_set; subst_vars; rfl)), rfl, (by first | (rw [gi_Md_set, if_neg c1, if_neg c2, if_pos c3, if_neg c31, if_neg c32, if_neg c33, if_neg c34, if_neg c35]; done) | (rw [gi_Md_set, if_neg c1, if_neg c2, if_pos c3, if_neg c31, if_neg c32, if_neg c33, if_neg c34, if_neg c35]; subst_vars; rfl) | (unfold gi_Md_set; subst_vars; rfl)), (by first | (rw [gj_Md_set, if_neg c1, if_neg c2, if_pos c3, if_neg c31, if_neg c32, if_neg c33, if_neg c34, if_neg c35]; done) | (rw [gj_Md_set, if_neg c1, if_neg c2, if_pos c3, if_neg c31, if_neg c32, if_neg c33, if_neg c34, if_neg c35]; subst_vars; rfl) | (unfold gj_Md_set; subst_vars; rfl))⟩
                · refine lda_n_5_0 (pc := 96) d_Md_set_96 ?_
                  refine g_Md_21 (pc := 97) rfl d_Md_set_97 (hM.1) (hM.r 3 rfl) ?_
                  refine ldi_n_5_1 (pc := 100) d_Md_set_100 ?_
                  refine ldi_n_5_3 (pc := 101) d_Md_set_101 ?_
                  refine r_iast (pc := 102) d_Md_set_102 (hM.a 3 rfl) (by rw [em]; exact vp_in_nI (by omega) (by omega)) ?_
                  refine r_nmI (fun I39 hI38 => ?_)
                  refine r_goto (pc := 103) (tgt := 113) d_Md_set_103 (by decide) ?_
                  refine ldi_5_4 (pc := 113) d_Md_set_113 ?_
                  exact r_iret d_Md_set_115 rfl (by omega) (by omega) ⟨(by first | (rw [ga_Md_set, if_neg c1, if_neg c2, if_pos c3, if_neg c31, if_neg c32, if_neg c33, if_neg c34, if_pos c35]; done) | (rw [ga_Md_set, if_neg c1, if_neg c2, if_pos c3, if_neg c31, if_neg c32, if_neg c33, if_neg c34, if_pos c35]; subst_vars; rfl) | (unfold ga_Md_set; subst_vars; rfl)), rfl, (by first | (rw [gi_Md_set, if_neg c1, if_neg c2, if_pos c3, if_neg c31, if_neg c32, if_neg c33, if_neg c34, if_pos c35]; done) | (rw [gi_Md_set, if_neg c1, if_neg c2, if_pos c3, if_neg c31, if_neg c32, if_neg c33, if_neg c34, if_pos c35]; subst_vars; rfl) | (unfold gi_Md_set; subst_vars; rfl)), (by first | (rw [gj_Md_set, if_neg c1, if_neg c2, if_pos c3, if_neg c31, if_neg c32, if_neg c33, if_neg c34, if_pos c35]; done) | (rw [gj_Md_set, if_neg c1, if_neg c2, if_pos c3, if_neg c31, if_neg c32, if_neg c33, if_neg c34, if_pos c35]; subst_vars; rfl) | (unfold gj_Md_set; subst_vars; rfl))⟩
              · refine lda_n_5_0 (pc := 81) d_Md_set_81 ?_
                refine g_Md_18 (pc := 82) rfl d_Md_set_82 (hM.1) (hM.r 2 rfl) ?_
                refine ldi_n_5_1 (pc := 85) d_Md_set_85 ?_
                refine ldi_n_5_3 (pc := 86) d_Md_set_86 ?_
                refine r_iast (pc := 87) d_Md_set_87 (hM.a 2 rfl) (by rw [em]; exact vp_in_nI (by omega) (by omega)) ?_
                refine r_nmI (fun I41 hI40 => ?_)
                refine r_goto (pc := 88) (tgt := 113) d_Md_set_88 (by decide) ?_
                refine ldi_5_4 (pc := 113) d_Md_set_113 ?_
                exact r_iret d_Md_set_115 rfl (by omega) (by omega) ⟨(by first | (rw [ga_Md_set, if_neg c1, if_neg c2, if_pos c3, if_neg c31, if_neg c32, if_neg c33, if_pos c34]; done) | (rw [ga_Md_set, if_neg c1, if_neg c2, if_pos c3, if_neg c31, if_neg c32, if_neg c33, if_pos c34]; subst_vars; rfl) | (unfold ga_Md_set; subst_vars; rfl)), rfl, (by first | (rw [gi_Md_set, if_neg c1, if_neg c2, if_pos c3, if_neg c31, if_neg c32, if_neg c33, if_pos c34]; done) | (rw [gi_Md_set, if_neg c1, if_neg c2, if_pos c3, if_neg c31, if_neg c32, if_neg c33, if_pos c34]; subst_vars; rfl) | (unfold gi_Md_set; subst_vars; rfl)), (by first | (rw [gj_Md_set, if_neg c1, if_neg c2, if_pos c3, if_neg c31, if_neg c32, if_neg c33, if_pos c34]; done) | (rw [gj_Md_set, if_neg c1, if_neg c2, if_pos c3, if_neg c31, if_neg c32, if_neg c33, if_pos c34]; subst_vars; rfl) | (unfold gj_Md_set; subst_vars; rfl))⟩
            · refine lda_n_5_0 (pc := 60) d_Md_set_60 ?_
              refine g_Md_21 (pc := 61) rfl d_Md_set_61 (hM.1) (hM.r 3 rfl) ?_
              refine ldi_n_5_1 (pc := 64) d_Md_set_64 ?_
              refine r_iald (pc := 65) d_Md_set_65 (hM.a 3 rfl) (by rw [em]; exact vp_in_nI (by omega) (by omega)) ?_
              refine r_goto (pc := 66) (tgt := 75) d_Md_set_66 (by decide) ?_
              refine sti_5_4 (pc := 75) d_Md_set_75 rfl ?_
              refine ldi_n_5_2 (pc := 77) d_Md_set_77 ?_
              refine r_if_ne (pc := 78) (tgt := 91) d_Md_set_78 (by decide) (fun c42 => ?_) (fun c42 => ?_)
              · refine ldi_n_5_2 (pc := 91) d_Md_set_91 ?_
                refine r_iconst (pc := 92) (v := 1) d_Md_set_92 rfl ?_
                refine r_icmp_ne (pc := 93) (tgt := 106) d_Md_set_93 (by decide) (fun c43 => ?_) (fun c43 => ?_)
                · refine lda_n_5_0 (pc := 106) d_Md_set_106 ?_
                  refine g_Md_24 (pc := 107) rfl d_Md_set_107 (hM.1) (hM.r 4 rfl) ?_
                  refine ldi_n_5_1 (pc := 110) d_Md_set_110 ?_
                  refine ldi_n_5_3 (pc := 111) d_Md_set_111 ?_
                  refine r_iast (pc := 112) d_Md_set_112 (hM.a 4 rfl) (by rw [em]; exact vp_in_nI (by omega) (by omega)) ?_
                  refine r_nmI (fun I45 hI44 => ?_)
                  refine ldi_5_4 (pc := 113) d_Md_set_113 ?_
                  exact r_iret d_Md_set_115 rfl (by omega) (by omega) ⟨(by first | (rw [ga_Md_set, if_neg c1, if_neg c2, if_pos c3, if_neg c31, if_neg c32, if_pos c33, if_neg c42, if_neg c43]; done) | (rw [ga_Md_set, if_neg c1, if_neg c2, if_pos c3, if_neg c31, if_neg c32, if_pos c33, if_neg c42, if_neg c43]; subst_vars; rfl) | (unfold ga_Md_set; subst_vars; rfl)), rfl, (by first | (rw [gi_Md_set, if_neg c1, if_neg c2, if_pos c3, if_neg c31, if_neg c32, if_pos c33, if_neg c42, if_neg c43]; done) | (rw [gi_Md_set, if_neg c1, if_neg c2, if_pos c3, if_neg c31, if_neg c32, if_pos c33, if_neg c42, if_neg c43]; subst_vars; rfl) | (unfold gi_Md_set; subst_vars; rfl)), (by first | (rw [gj_Md_set, if_neg c1, if_neg c2, if_pos c3, if_neg c31, if_neg c32, if_pos c33, if_neg c42, if_neg c43]; done) | (rw [gj_Md_set, if_neg c1, if_neg c2, if_pos c3, if_neg c31, if_neg c32, if_pos c33, if_neg c42, if_neg c43]; subst_vars; rfl) | (unfold gj_Md_set; subst_vars; rfl))⟩
                · refine lda_n_5_0 (pc := 96) d_Md_set_96 ?_
                  refine g_Md_21 (pc := 97) rfl d_Md_set_97 (hM.1) (hM.r 3 rfl) ?_
                  refine ldi_n_5_1 (pc := 100) d_Md_set_100 ?_
                  refine ldi_n_5_3 (pc := 101) d_Md_set_101 ?_
                  refine r_iast (pc := 102) d_Md_set_102 (hM.a 3 rfl) (by rw [em]; exact vp_in_nI (by omega) (by omega)) ?_
                  refine r_nmI (fun I47 hI46 => ?_)
                  refine r_goto (pc := 103) (tgt := 113) d_Md_set_103 (by decide) ?_
                  refine ldi_5_4 (pc := 113) d_Md_set_113 ?_
                  exact r_iret d_Md_set_115 rfl (by omega) (by omega) ⟨(by first | (rw [ga_Md_set, if_neg c1, if_neg c2, if_pos c3, if_neg c31, if_neg c32, if_pos c33, if_neg c42, if_pos c43]; done) | (rw [ga_Md_set, if_neg c1, if_neg c2, if_pos c3, if_neg c31, if_neg c32, if_pos c33, if_neg c42, if_pos c43]; subst_vars; rfl) | (unfold ga_Md_set; subst_vars; rfl)), rfl, (by first | (rw [gi_Md_set, if_neg c1, if_neg c2, if_pos c3, if_neg c31, if_neg c32, if_pos c33, if_neg c42, if_pos c43]; done) | (rw [gi_Md_set, if_neg c1, if_neg c2, if_pos c3, if_neg c31, if_neg c32, if_pos c33, if_neg c42, if_pos c43]; subst_vars; rfl) | (unfold gi_Md_set; subst_vars; rfl)), (by first | (rw [gj_Md_set, if_neg c1, if_neg c2, if_pos c3, if_neg c31, if_neg c32, if_pos c33, if_neg c42, if_pos c43]; done) | (rw [gj_Md_set, if_neg c1, if_neg c2, if_pos c3, if_neg c31, if_neg c32, if_pos c33, if_neg c42, if_pos c43]; subst_vars; rfl) | (unfold gj_Md_set; subst_vars; rfl))⟩
              · refine lda_n_5_0 (pc := 81) d_Md_set_81 ?_
                refine g_Md_18 (pc := 82) rfl d_Md_set_82 (hM.1) (hM.r 2 rfl) ?_
                refine ldi_n_5_1 (pc := 85) d_Md_set_85 ?_
                refine ldi_n_5_3 (pc := 86) d_Md_set_86 ?_
                refine r_iast (pc := 87) d_Md_set_87 (hM.a 2 rfl) (by rw [em]; exact vp_in_nI (by omega) (by omega)) ?_
                refine r_nmI (fun I49 hI48 => ?_)
                refine r_goto (pc := 88) (tgt := 113) d_Md_set_88 (by decide) ?_
                refine ldi_5_4 (pc := 113) d_Md_set_113 ?_
                exact r_iret d_Md_set_115 rfl (by omega) (by omega) ⟨(by first | (rw [ga_Md_set, if_neg c1, if_neg c2, if_pos c3, if_neg c31, if_neg c32, if_pos c33, if_pos c42]; done) | (rw [ga_Md_set, if_neg c1, if_neg c2, if_pos c3, if_neg c31, if_neg c32, if_pos c33, if_pos c42]; subst_vars; rfl) | (unfold ga_Md_set; subst_vars; rfl)), rfl, (by first | (rw [gi_Md_set, if_neg c1, if_neg c2, if_pos c3, if_neg c31, if_neg c32, if_pos c33, if_pos c42]; done) | (rw [gi_Md_set, if_neg c1, if_neg c2, if_pos c3, if_neg c31, if_neg c32, if_pos c33, if_pos c42]; subst_vars; rfl) | (unfold gi_Md_set; subst_vars; rfl)), (by first | (rw [gj_Md_set, if_neg c1, if_neg c2, if_pos c3, if_neg c31, if_neg c32, if_pos c33, if_pos c42]; done) | (rw [gj_Md_set, if_neg c1, if_neg c2, if_pos c3, if_neg c31, if_neg c32, if_pos c33, if_pos c42]; subst_vars; rfl) | (unfold gj_Md_set; subst_vars; rfl))⟩
          · refine lda_n_5_0 (pc := 46) d_Md_set_46 ?_
            refine g_Md_18 (pc := 47) rfl d_Md_set_47 (hM.1) (hM.r 2 rfl) ?_
            refine ldi_n_5_1 (pc := 50) d_Md_set_50 ?_
            refine r_iald (pc := 51) d_Md_set_51 (hM.a 2 rfl) (by rw [em]; exact vp_in_nI (by omega) (by omega)) ?_
            refine r_goto (pc := 52) (tgt := 75) d_Md_set_52 (by decide) ?_
            refine sti_5_4 (pc := 75) d_Md_set_75 rfl ?_
            refine ldi_n_5_2 (pc := 77) d_Md_set_77 ?_
            refine r_if_ne (pc := 78) (tgt := 91) d_Md_set_78 (by decide) (fun c50 => ?_) (fun c50 => ?_)
            · refine ldi_n_5_2 (pc := 91) d_Md_set_91 ?_
              refine r_iconst (pc := 92) (v := 1) d_Md_set_92 rfl ?_
              refine r_icmp_ne (pc := 93) (tgt := 106) d_Md_set_93 (by decide) (fun c51 => ?_) (fun c51 => ?_)
              · refine lda_n_5_0 (pc := 106) d_Md_set_106 ?_
                refine g_Md_24 (pc := 107) rfl d_Md_set_107 (hM.1) (hM.r 4 rfl) ?_
                refine ldi_n_5_1 (pc := 110) d_Md_set_110 ?_
                refine ldi_n_5_3 (pc := 111) d_Md_set_111 ?_
                refine r_iast (pc := 112) d_Md_set_112 (hM.a 4 rfl) (by rw [em]; exact vp_in_nI (by omega) (by omega)) ?_
                refine r_nmI (fun I53 hI52 => ?_)
                refine ldi_5_4 (pc := 113) d_Md_set_113 ?_
                exact r_iret d_Md_set_115 rfl (by omega) (by omega) ⟨(by first | (rw [ga_Md_set, if_neg c1, if_neg c2, if_pos c3, if_neg c31, if_pos c32, if_neg c50, if_neg c51]; done) | (rw [ga_Md_set, if_neg c1, if_neg c2, if_pos c3, if_neg c31, if_pos c32, if_neg c50, if_neg c51]; subst_vars; rfl) | (unfold ga_Md_set; subst_vars; rfl)), rfl, (by first | (rw [gi_Md_set, if_neg c1, if_neg c2, if_pos c3, if_neg c31, if_pos c32, if_neg c50, if_neg c51]; done) | (rw [gi_Md_set, if_neg c1, if_neg c2, if_pos c3, if_neg c31, if_pos c32, if_neg c50, if_neg c51]; subst_vars; rfl) | (unfold gi_Md_set; subst_vars; rfl)), (by first | (rw [gj_Md_set, if_neg c1, if_neg c2, if_pos c3, if_neg c31, if_pos c32, if_neg c50, if_neg c51]; done) | (rw [gj_Md_set, if_neg c1, if_neg c2, if_pos c3, if_neg c31, if_pos c32, if_neg c50, if_neg c51]; subst_vars; rfl) | (unfold gj_Md_set; subst_vars; rfl))⟩
              · refine lda_n_5_0 (pc := 96) d_Md_set_96 ?_
                refine g_Md_21 (pc := 97) rfl d_Md_set_97 (hM.1) (hM.r 3 rfl) ?_
                refine ldi_n_5_1 (pc := 100) d_Md_set_100 ?_
                refine ldi_n_5_3 (pc := 101) d_Md_set_101 ?_
                refine r_iast (pc := 102) d_Md_set_102 (hM.a 3 rfl) (by rw [em]; exact vp_in_nI (by omega) (by omega)) ?_
                refine r_nmI (fun I55 hI54 => ?_)
                refine r_goto (pc := 103) (tgt := 113) d_Md_set_103 (by decide) ?_
                refine ldi_5_4 (pc := 113) d_Md_set_113 ?_
                exact r_iret d_Md_set_115 rfl (by omega) (by omega) ⟨(by first | (rw [ga_Md_set, if_neg c1, if_neg c2, if_pos c3, if_neg c31, if_pos c32, if_neg c50, if_pos c51]; done) | (rw [ga_Md_set, if_neg c1, if_neg c2, if_pos c3, if_neg c31, if_pos c32, if_neg c50, if_pos c51]; subst_vars; rfl) | (unfold ga_Md_set; subst_vars; rfl)), rfl, (by first | (rw [gi_Md_set, if_neg c1, if_neg c2, if_pos c3, if_neg c31, if_pos c32, if_neg c50, if_pos c51]; done) | (rw [gi_Md_set, if_neg c1, if_neg c2, if_pos c3, if_neg c31, if_pos c32, if_neg c50, if_pos c51]; subst_vars; rfl) | (unfold gi_Md_set; subst_vars; rfl)), (by first | (rw [gj_Md_set, if_neg c1, if_neg c2, if_pos c3, if_neg c31, if_pos c32, if_neg c50, if_pos c51]; done) | (rw [gj_Md_set, if_neg c1, if_neg c2, if_pos c3, if_neg c31, if_pos c32, if_neg c50, if_pos c51]; subst_vars; rfl) | (unfold gj_Md_set; subst_vars; rfl))⟩
            · refine lda_n_5_0 (pc := 81) d_Md_set_81 ?_
              refine g_Md_18 (pc := 82) rfl d_Md_set_82 (hM.1) (hM.r 2 rfl) ?_
              refine ldi_n_5_1 (pc := 85) d_Md_set_85 ?_
              refine ldi_n_5_3 (pc := 86) d_Md_set_86 ?_
              refine r_iast (pc := 87) d_Md_set_87 (hM.a 2 rfl) (by rw [em]; exact vp_in_nI (by omega) (by omega)) ?_
              refine r_nmI (fun I57 hI56 => ?_)
              refine r_goto (pc := 88) (tgt := 113) d_Md_set_88 (by decide) ?_
              refine ldi_5_4 (pc := 113) d_Md_set_113 ?_
              exact r_iret d_Md_set_115 rfl (by omega) (by omega) ⟨(by first | (rw [ga_Md_set, if_neg c1, if_neg c2, if_pos c3, if_neg c31, if_pos c32, if_pos c50]; done) | (rw [ga_Md_set, if_neg c1, if_neg c2, if_pos c3, if_neg c31, if_pos c32, if_pos c50]; subst_vars; rfl) | (unfold ga_Md_set; subst_vars; rfl)), rfl, (by first | (rw [gi_Md_set, if_neg c1, if_neg c2, if_pos c3, if_neg c31, if_pos c32, if_pos c50]; done) | (rw [gi_Md_set, if_neg c1, if_neg c2, if_pos c3, if_neg c31, if_pos c32, if_pos c50]; subst_vars; rfl) | (unfold gi_Md_set; subst_vars; rfl)), (by first | (rw [gj_Md_set, if_neg c1, if_neg c2, if_pos c3, if_neg c31, if_pos c32, if_pos c50]; done) | (rw [gj_Md_set, if_neg c1, if_neg c2, if_pos c3, if_neg c31, if_pos c32, if_pos c50]; subst_vars; rfl) | (unfold gj_Md_set; subst_vars; rfl))⟩
        · refine r_bipush (pc := 39) (v := (-2)) d_Md_set_39 rfl ?_
          exact r_iret d_Md_set_41 rfl (by omega) (by omega) ⟨(by first | (rw [ga_Md_set, if_neg c1, if_neg c2, if_pos c3, if_pos c31]; done) | (rw [ga_Md_set, if_neg c1, if_neg c2, if_pos c3, if_pos c31]; subst_vars; rfl) | (unfold ga_Md_set; subst_vars; rfl)), rfl, (by first | (rw [gi_Md_set, if_neg c1, if_neg c2, if_pos c3, if_pos c31]; done) | (rw [gi_Md_set, if_neg c1, if_neg c2, if_pos c3, if_pos c31]; subst_vars; rfl) | (unfold gi_Md_set; subst_vars; rfl)), (by first | (rw [gj_Md_set, if_neg c1, if_neg c2, if_pos c3, if_pos c31]; done) | (rw [gj_Md_set, if_neg c1, if_neg c2, if_pos c3, if_pos c31]; subst_vars; rfl) | (unfold gj_Md_set; subst_vars; rfl))⟩
    · refine r_iconst (pc := 17) (v := (-1)) d_Md_set_17 rfl ?_
      exact r_iret d_Md_set_18 rfl (by omega) (by omega) ⟨(by first | (rw [ga_Md_set, if_neg c1, if_pos c2]; done) | (rw [ga_Md_set, if_neg c1, if_pos c2]; subst_vars; rfl) | (unfold ga_Md_set; subst_vars; rfl)), rfl, (by first | (rw [gi_Md_set, if_neg c1, if_pos c2]; done) | (rw [gi_Md_set, if_neg c1, if_pos c2]; subst_vars; rfl) | (unfold gi_Md_set; subst_vars; rfl)), (by first | (rw [gj_Md_set, if_neg c1, if_pos c2]; done) | (rw [gj_Md_set, if_neg c1, if_pos c2]; subst_vars; rfl) | (unfold gj_Md_set; subst_vars; rfl))⟩
def ga_Md_done (I : qI) (J : qJ)  (p : Int32) (x : Int32) : Int32 := (if (qwithin p 0 (I 114 0 - 1)) = 0 then (-1) else (if x = 0 then (I 120 (p).toNatClampNeg) else (I 120 (p).toNatClampNeg)))
def gi_Md_done (I : qI) (J : qJ)  (p : Int32) (x : Int32) : qI := (if (qwithin p 0 (I 114 0 - 1)) = 0 then I else (if x = 0 then (qup I 120 (p).toNatClampNeg 0) else (qup I 120 (p).toNatClampNeg 1)))
def gj_Md_done (I : qI) (J : qJ)  (p : Int32) (x : Int32) : qJ := (if (qwithin p 0 (I 114 0 - 1)) = 0 then J else (if x = 0 then J else J))
theorem c_Md_done {p x : Int32} {c : Nat} (hM : isMd S) (hc : I 114 0 = nI c) (hc6 : c ≤ 6) : qMet E y_Md_done b_Md_done 4 (some .int) 2 0 0 [.ref (qb E + 114), .int p, .int x] S I J (fun r S' I' J' => r = some (.int (ga_Md_done I J p x)) ∧ S = S' ∧ I' = gi_Md_done I J p x ∧ J' = gj_Md_done I J p x) := by
  refine qMet.of (L := [some (.ref (qb E + 114)), some (.int p), some (.int x), none]) (by decide +kernel) (Nat.le_of_ble_eq_true rfl) rfl ?_
  refine lda_n_4_0 (pc := 0) d_Md_done_0 ?_
  refine ldi_n_4_1 (pc := 1) d_Md_done_1 ?_
  refine r_callV (pc := 2) (As := [.int p]) (k := 9) (N := 56) (T := T_Md) k_Md_127 im_Md_isOne se_Md_isOne rfl (by decide) rfl (by decide) d_Md_done_2 hM.1 (c_Md_isOne hM) rfl (Nat.le_of_ble_eq_true rfl) (by omega) (by omega) (by omega) (fun v' S' I' J' hq => ?_)
  obtain ⟨rfl, rfl, rfl, rfl⟩ := hq
  refine r_if_ne (pc := 5) (tgt := 10) d_Md_done_5 (by decide) (fun c1 => ?_) (fun c1 => ?_)
  · obtain ⟨m, hm, em⟩ := qisM_y (show c < 2 ^ 31 by omega) (by rw [← hc]; exact c1)
    refine lda_n_4_0 (pc := 10) d_Md_done_10 ?_
    refine g_Md_27 (pc := 11) rfl d_Md_done_11 (hM.1) (hM.r 5 rfl) ?_
    refine ldi_n_4_1 (pc := 14) d_Md_done_14 ?_
    refine r_iald (pc := 15) d_Md_done_15 (hM.a 5 rfl) (by rw [em]; exact vp_in_nI (by omega) (by omega)) ?_
    refine sti_n_4_3 (pc := 16) d_Md_done_16 rfl ?_
    refine lda_n_4_0 (pc := 17) d_Md_done_17 ?_
    refine g_Md_27 (pc := 18) rfl d_Md_done_18 (hM.1) (hM.r 5 rfl) ?_
    refine ldi_n_4_1 (pc := 21) d_Md_done_21 ?_
    refine ldi_n_4_2 (pc := 22) d_Md_done_22 ?_
    refine r_if_eq (pc := 23) (tgt := 30) d_Md_done_23 (by decide) (fun c2 => ?_) (fun c2 => ?_)
    · refine r_iconst (pc := 30) (v := 0) d_Md_done_30 rfl ?_
      refine r_iast (pc := 31) d_Md_done_31 (hM.a 5 rfl) (by rw [em]; exact vp_in_nI (by omega) (by omega)) ?_
      refine r_nmI (fun I4 hI3 => ?_)
      refine ldi_n_4_3 (pc := 32) d_Md_done_32 ?_
      exact r_iret d_Md_done_33 rfl (by omega) (by omega) ⟨(by first | (rw [ga_Md_done, if_neg c1, if_pos c2]; done) | (rw [ga_Md_done, if_neg c1, if_pos c2]; subst_vars; rfl) | (unfold ga_Md_done; subst_vars; rfl)), rfl, (by first | (rw [gi_Md_done, if_neg c1, if_pos c2]; done) | (rw [gi_Md_done, if_neg c1, if_pos c2]; subst_vars; rfl) | (unfold gi_Md_done; subst_vars; rfl)), (by first | (rw [gj_Md_done, if_neg c1, if_pos c2]; done) | (rw [gj_Md_done, if_neg c1, if_pos c2]; subst_vars; rfl) | (unfold gj_Md_done; subst_vars; rfl))⟩
    · refine r_iconst (pc := 26) (v := 1) d_Md_done_26 rfl ?_
      refine r_goto (pc := 27) (tgt := 31) d_Md_done_27 (by decide) ?_
      refine r_iast (pc := 31) d_Md_done_31 (hM.a 5 rfl) (by rw [em]; exact vp_in_nI (by omega) (by omega)) ?_
      refine r_nmI (fun I6 hI5 => ?_)
      refine ldi_n_4_3 (pc := 32) d_Md_done_32 ?_
      exact r_iret d_Md_done_33 rfl (by omega) (by omega) ⟨(by first | (rw [ga_Md_done, if_neg c1, if_neg c2]; done) | (rw [ga_Md_done, if_neg c1, if_neg c2]; subst_vars; rfl) | (unfold ga_Md_done; subst_vars; rfl)), rfl, (by first | (rw [gi_Md_done, if_neg c1, if_neg c2]; done) | (rw [gi_Md_done, if_neg c1, if_neg c2]; subst_vars; rfl) | (unfold gi_Md_done; subst_vars; rfl)), (by first | (rw [gj_Md_done, if_neg c1, if_neg c2]; done) | (rw [gj_Md_done, if_neg c1, if_neg c2]; subst_vars; rfl) | (unfold gj_Md_done; subst_vars; rfl))⟩
  · refine r_iconst (pc := 8) (v := (-1)) d_Md_done_8 rfl ?_
    exact r_iret d_Md_done_9 rfl (by omega) (by omega) ⟨(by first | (rw [ga_Md_done, if_pos c1]; done) | (rw [ga_Md_done, if_pos c1]; subst_vars; rfl) | (unfold ga_Md_done; subst_vars; rfl)), rfl, (by first | (rw [gi_Md_done, if_pos c1]; done) | (rw [gi_Md_done, if_pos c1]; subst_vars; rfl) | (unfold gi_Md_done; subst_vars; rfl)), (by first | (rw [gj_Md_done, if_pos c1]; done) | (rw [gj_Md_done, if_pos c1]; subst_vars; rfl) | (unfold gj_Md_done; subst_vars; rfl))⟩
def ga_Md_list (I : qI) (J : qJ) (l : Nat) (p : Int32) : Int32 := (if p = (-1) then 0 else (if (qwithin p 0 (I 114 0 - 1)) = 0 then (-1) else (if (qplace (I 122) p l l) = (-5) then ((I 114 8) + 1) else (-3))))
def gi_Md_list (I : qI) (J : qJ) (l : Nat) (p : Int32) : qI := (if p = (-1) then (qup I 114 8 0) else (if (qwithin p 0 (I 114 0 - 1)) = 0 then I else (if (qplace (I 122) p l l) = (-5) then (qup (qup I 114 8 ((I 114 8) + 1)) 122 ((I 114 8)).toNatClampNeg p) else I)))
def gj_Md_list (I : qI) (J : qJ) (l : Nat) (p : Int32) : qJ := (if p = (-1) then J else (if (qwithin p 0 (I 114 0 - 1)) = 0 then J else (if (qplace (I 122) p l l) = (-5) then J else J)))
theorem c_Md_list {p : Int32} {c l : Nat} (hM : isMd S) (hc : I 114 0 = nI c) (hc6 : c ≤ 6) (hl : I 114 8 = nI l) (hl6 : l ≤ 6) (hfr : ∀ q, q < c → qplace (I 122) (nI q) l l = -5 → l < 6) : qMet E y_Md_list b_Md_list 2 (some .int) 2 0 0 [.ref (qb E + 114), .int p] S I J (fun r S' I' J' => r = some (.int (ga_Md_list I J l p)) ∧ S = S' ∧ I' = gi_Md_list I J l p ∧ J' = gj_Md_list I J l p) := by
  refine qMet.of (L := [some (.ref (qb E + 114)), some (.int p)]) (by decide +kernel) (Nat.le_of_ble_eq_true rfl) rfl ?_
  refine ldi_n_2_1 (pc := 0) d_Md_list_0 ?_
  refine r_iconst (pc := 1) (v := (-1)) d_Md_list_1 rfl ?_
  refine r_icmp_ne (pc := 2) (tgt := 12) d_Md_list_2 (by decide) (fun c1 => ?_) (fun c1 => ?_)
  · refine lda_n_2_0 (pc := 12) d_Md_list_12 ?_
    refine ldi_n_2_1 (pc := 13) d_Md_list_13 ?_
    refine r_callV (pc := 14) (As := [.int p]) (k := 9) (N := 56) (T := T_Md) k_Md_127 im_Md_isOne se_Md_isOne rfl (by decide) rfl (by decide) d_Md_list_14 hM.1 (c_Md_isOne hM) rfl (Nat.le_of_ble_eq_true rfl) (by omega) (by omega) (by omega) (fun v' S' I' J' hq => ?_)
    obtain ⟨rfl, rfl, rfl, rfl⟩ := hq
    refine r_if_ne (pc := 17) (tgt := 22) d_Md_list_17 (by decide) (fun c2 => ?_) (fun c2 => ?_)
    · obtain ⟨m, hm, em⟩ := qisM_y (show c < 2 ^ 31 by omega) (by rw [← hc]; exact c2)
      refine lda_n_2_0 (pc := 22) d_Md_list_22 ?_
      refine ldi_n_2_1 (pc := 23) d_Md_list_23 ?_
      refine r_callV (pc := 24) (As := [.int p]) (k := 9) (N := 56) (T := T_Md) k_Md_131 im_Md_placeOf se_Md_placeOf rfl (by decide) rfl (by decide) d_Md_list_24 hM.1 (c_Md_placeOf hM hl hl6) rfl (Nat.le_of_ble_eq_true rfl) (by omega) (by omega) (by omega) (fun v' S' I' J' hq => ?_)
      obtain ⟨rfl, rfl, rfl, rfl⟩ := hq
      refine r_bipush (pc := 27) (v := (-5)) d_Md_list_27 rfl ?_
      refine r_icmp_eq (pc := 29) (tgt := 35) d_Md_list_29 (by decide) (fun c3 => ?_) (fun c3 => ?_)
      · have hin : vp_in (I 114 8) 6 := by
          rw [hl]
          exact vp_in_nI (hfr m hm (by rw [← em]; exact c3)) (by omega)
        refine lda_n_2_0 (pc := 35) d_Md_list_35 ?_
        refine g_Md_33 (pc := 36) rfl d_Md_list_36 (hM.1) (hM.r 7 rfl) ?_
        refine lda_n_2_0 (pc := 39) d_Md_list_39 ?_
        refine r_dup (pc := 40) d_Md_list_40 rfl ?_
        refine g_Md_124 (pc := 41) rfl d_Md_list_41 (hM.1) ?_
        refine r_dup_x1 (pc := 44) d_Md_list_44 rfl rfl ?_
        refine r_iconst (pc := 45) (v := 1) d_Md_list_45 rfl ?_
        refine r_iadd (pc := 46) d_Md_list_46 ?_
        refine p_Md_124 (pc := 47) rfl d_Md_list_47 (hM.1) ?_
        refine r_nmI (fun I5 hI4 => ?_)
        refine ldi_n_2_1 (pc := 50) d_Md_list_50 ?_
        refine r_iast (pc := 51) d_Md_list_51 (hM.a 7 rfl) (hin) ?_
        refine r_nmI (fun I7 hI6 => ?_)
        refine lda_n_2_0 (pc := 52) d_Md_list_52 ?_
        refine g_Md_124 (pc := 53) rfl d_Md_list_53 (hM.1) ?_
        refine r_top (v := ((I 114 8) + 1)) (by rw [hI6, qup_o (by decide), hI4, qup_at]) ?_
        exact r_iret d_Md_list_56 rfl (by omega) (by omega) ⟨(by first | (rw [ga_Md_list, if_neg c1, if_neg c2, if_pos c3]; done) | (rw [ga_Md_list, if_neg c1, if_neg c2, if_pos c3]; subst_vars; rfl) | (unfold ga_Md_list; subst_vars; rfl)), rfl, (by first | (rw [gi_Md_list, if_neg c1, if_neg c2, if_pos c3]; done) | (rw [gi_Md_list, if_neg c1, if_neg c2, if_pos c3]; subst_vars; rfl) | (unfold gi_Md_list; subst_vars; rfl)), (by first | (rw [gj_Md_list, if_neg c1, if_neg c2, if_pos c3]; done) | (rw [gj_Md_list, if_neg c1, if_neg c2, if_pos c3]; subst_vars; rfl) | (unfold gj_Md_list; subst_vars; rfl))⟩
      · refine r_bipush (pc := 32) (v := (-3)) d_Md_list_32 rfl ?_
        exact r_iret d_Md_list_34 rfl (by omega) (by omega) ⟨(by first | (rw [ga_Md_list, if_neg c1, if_neg c2, if_neg c3]; done) | (rw [ga_Md_list, if_neg c1, if_neg c2, if_neg c3]; subst_vars; rfl) | (unfold ga_Md_list; subst_vars; rfl)), rfl, (by first | (rw [gi_Md_list, if_neg c1, if_neg c2, if_neg c3]; done) | (rw [gi_Md_list, if_neg c1, if_neg c2, if_neg c3]; subst_vars; rfl) | (unfold gi_Md_list; subst_vars; rfl)), (by first | (rw [gj_Md_list, if_neg c1, if_neg c2, if_neg c3]; done) | (rw [gj_Md_list, if_neg c1, if_neg c2, if_neg c3]; subst_vars; rfl) | (unfold gj_Md_list; subst_vars; rfl))⟩
    · refine r_iconst (pc := 20) (v := (-1)) d_Md_list_20 rfl ?_
      exact r_iret d_Md_list_21 rfl (by omega) (by omega) ⟨(by first | (rw [ga_Md_list, if_neg c1, if_pos c2]; done) | (rw [ga_Md_list, if_neg c1, if_pos c2]; subst_vars; rfl) | (unfold ga_Md_list; subst_vars; rfl)), rfl, (by first | (rw [gi_Md_list, if_neg c1, if_pos c2]; done) | (rw [gi_Md_list, if_neg c1, if_pos c2]; subst_vars; rfl) | (unfold gi_Md_list; subst_vars; rfl)), (by first | (rw [gj_Md_list, if_neg c1, if_pos c2]; done) | (rw [gj_Md_list, if_neg c1, if_pos c2]; subst_vars; rfl) | (unfold gj_Md_list; subst_vars; rfl))⟩
  · refine lda_n_2_0 (pc := 5) d_Md_list_5 ?_
    refine r_iconst (pc := 6) (v := 0) d_Md_list_6 rfl ?_
    refine p_Md_124 (pc := 7) rfl d_Md_list_7 (hM.1) ?_
    refine r_nmI (fun I9 hI8 => ?_)
    refine r_iconst (pc := 10) (v := 0) d_Md_list_10 rfl ?_
    exact r_iret d_Md_list_11 rfl (by omega) (by omega) ⟨(by first | (rw [ga_Md_list, if_pos c1]; done) | (rw [ga_Md_list, if_pos c1]; subst_vars; rfl) | (unfold ga_Md_list; subst_vars; rfl)), rfl, (by first | (rw [gi_Md_list, if_pos c1]; done) | (rw [gi_Md_list, if_pos c1]; subst_vars; rfl) | (unfold gi_Md_list; subst_vars; rfl)), (by first | (rw [gj_Md_list, if_pos c1]; done) | (rw [gj_Md_list, if_pos c1]; subst_vars; rfl) | (unfold gj_Md_list; subst_vars; rfl))⟩
def ga_Md_swap (I : qI) (J : qJ) (l : Nat) (p : Int32) (q : Int32) : Int32 := (if (qwithin p 0 (I 114 0 - 1)) = 0 then (-1) else (if (qwithin q 0 (I 114 0 - 1)) = 0 then (-1) else (if p = q then (-2) else (if (qplace (I 122) p l l) = (-5) then (-3) else (if (qplace (I 122) q l l) = (-5) then (-3) else (qplace (I 122) q l l))))))
def gi_Md_swap (I : qI) (J : qJ) (l : Nat) (p : Int32) (q : Int32) : qI := (if (qwithin p 0 (I 114 0 - 1)) = 0 then I else (if (qwithin q 0 (I 114 0 - 1)) = 0 then I else (if p = q then I else (if (qplace (I 122) p l l) = (-5) then I else (if (qplace (I 122) q l l) = (-5) then I else (qup (qup I 122 ((qplace (I 122) p l l)).toNatClampNeg q) 122 ((qplace (I 122) q l l)).toNatClampNeg p))))))
def gj_Md_swap (I : qI) (J : qJ) (l : Nat) (p : Int32) (q : Int32) : qJ := (if (qwithin p 0 (I 114 0 - 1)) = 0 then J else (if (qwithin q 0 (I 114 0 - 1)) = 0 then J else (if p = q then J else (if (qplace (I 122) p l l) = (-5) then J else (if (qplace (I 122) q l l) = (-5) then J else J)))))
theorem c_Md_swap {p q : Int32} {c l : Nat} (hM : isMd S) (hc : I 114 0 = nI c) (hc6 : c ≤ 6) (hl : I 114 8 = nI l) (hl6 : l ≤ 6) : qMet E y_Md_swap b_Md_swap 5 (some .int) 2 0 0 [.ref (qb E + 114), .int p, .int q] S I J (fun r S' I' J' => r = some (.int (ga_Md_swap I J l p q)) ∧ S = S' ∧ I' = gi_Md_swap I J l p q ∧ J' = gj_Md_swap I J l p q) := by
  refine qMet.of (L := [some (.ref (qb E + 114)), some (.int p), some (.int q), none, none]) (by decide +kernel) (Nat.le_of_ble_eq_true rfl) rfl ?_
  refine lda_n_5_0 (pc := 0) d_Md_swap_0 ?_
  refine ldi_n_5_1 (pc := 1) d_Md_swap_1 ?_
  refine r_callV (pc := 2) (As := [.int p]) (k := 9) (N := 56) (T := T_Md) k_Md_127 im_Md_isOne se_Md_isOne rfl (by decide) rfl (by decide) d_Md_swap_2 hM.1 (c_Md_isOne hM) rfl (Nat.le_of_ble_eq_true rfl) (by omega) (by omega) (by omega) (fun v' S' I' J' hq => ?_)
  obtain ⟨rfl, rfl, rfl, rfl⟩ := hq
  refine r_if_eq (pc := 5) (tgt := 16) d_Md_swap_5 (by decide) (fun c1 => ?_) (fun c1 => ?_)
  · refine r_iconst (pc := 16) (v := (-1)) d_Md_swap_16 rfl ?_
    exact r_iret d_Md_swap_17 rfl (by omega) (by omega) ⟨(by first | (rw [ga_Md_swap, if_pos c1]; done) | (rw [ga_Md_swap, if_pos c1]; subst_vars; rfl) | (unfold ga_Md_swap; subst_vars; rfl)), rfl, (by first | (rw [gi_Md_swap, if_pos c1]; done) | (rw [gi_Md_swap, if_pos c1]; subst_vars; rfl) | (unfold gi_Md_swap; subst_vars; rfl)), (by first | (rw [gj_Md_swap, if_pos c1]; done) | (rw [gj_Md_swap, if_pos c1]; subst_vars; rfl) | (unfold gj_Md_swap; subst_vars; rfl))⟩
  · refine lda_n_5_0 (pc := 8) d_Md_swap_8 ?_
    refine ldi_n_5_2 (pc := 9) d_Md_swap_9 ?_
    refine r_callV (pc := 10) (As := [.int q]) (k := 9) (N := 56) (T := T_Md) k_Md_127 im_Md_isOne se_Md_isOne rfl (by decide) rfl (by decide) d_Md_swap_10 hM.1 (c_Md_isOne hM) rfl (Nat.le_of_ble_eq_true rfl) (by omega) (by omega) (by omega) (fun v' S' I' J' hq => ?_)
    obtain ⟨rfl, rfl, rfl, rfl⟩ := hq
    refine r_if_ne (pc := 13) (tgt := 18) d_Md_swap_13 (by decide) (fun c2 => ?_) (fun c2 => ?_)
    · refine ldi_n_5_1 (pc := 18) d_Md_swap_18 ?_
      refine ldi_n_5_2 (pc := 19) d_Md_swap_19 ?_
      refine r_icmp_ne (pc := 20) (tgt := 26) d_Md_swap_20 (by decide) (fun c3 => ?_) (fun c3 => ?_)
      · refine lda_n_5_0 (pc := 26) d_Md_swap_26 ?_
        refine ldi_n_5_1 (pc := 27) d_Md_swap_27 ?_
        refine r_callV (pc := 28) (As := [.int p]) (k := 9) (N := 56) (T := T_Md) k_Md_131 im_Md_placeOf se_Md_placeOf rfl (by decide) rfl (by decide) d_Md_swap_28 hM.1 (c_Md_placeOf hM hl hl6) rfl (Nat.le_of_ble_eq_true rfl) (by omega) (by omega) (by omega) (fun v' S' I' J' hq => ?_)
        obtain ⟨rfl, rfl, rfl, rfl⟩ := hq
        refine sti_n_5_3 (pc := 31) d_Md_swap_31 rfl ?_
        refine lda_n_5_0 (pc := 32) d_Md_swap_32 ?_
        refine ldi_n_5_2 (pc := 33) d_Md_swap_33 ?_
        refine r_callV (pc := 34) (As := [.int q]) (k := 9) (N := 56) (T := T_Md) k_Md_131 im_Md_placeOf se_Md_placeOf rfl (by decide) rfl (by decide) d_Md_swap_34 hM.1 (c_Md_placeOf hM hl hl6) rfl (Nat.le_of_ble_eq_true rfl) (by omega) (by omega) (by omega) (fun v' S' I' J' hq => ?_)
        obtain ⟨rfl, rfl, rfl, rfl⟩ := hq
        refine sti_5_4 (pc := 37) d_Md_swap_37 rfl ?_
        refine ldi_n_5_3 (pc := 39) d_Md_swap_39 ?_
        refine r_bipush (pc := 40) (v := (-5)) d_Md_swap_40 rfl ?_
        refine r_icmp_eq (pc := 42) (tgt := 52) d_Md_swap_42 (by decide) (fun c4 => ?_) (fun c4 => ?_)
        · refine r_bipush (pc := 52) (v := (-3)) d_Md_swap_52 rfl ?_
          exact r_iret d_Md_swap_54 rfl (by omega) (by omega) ⟨(by first | (rw [ga_Md_swap, if_neg c1, if_neg c2, if_neg c3, if_pos c4]; done) | (rw [ga_Md_swap, if_neg c1, if_neg c2, if_neg c3, if_pos c4]; subst_vars; rfl) | (unfold ga_Md_swap; subst_vars; rfl)), rfl, (by first | (rw [gi_Md_swap, if_neg c1, if_neg c2, if_neg c3, if_pos c4]; done) | (rw [gi_Md_swap, if_neg c1, if_neg c2, if_neg c3, if_pos c4]; subst_vars; rfl) | (unfold gi_Md_swap; subst_vars; rfl)), (by first | (rw [gj_Md_swap, if_neg c1, if_neg c2, if_neg c3, if_pos c4]; done) | (rw [gj_Md_swap, if_neg c1, if_neg c2, if_neg c3, if_pos c4]; subst_vars; rfl) | (unfold gj_Md_swap; subst_vars; rfl))⟩
        · refine ldi_5_4 (pc := 45) d_Md_swap_45 ?_
          refine r_bipush (pc := 47) (v := (-5)) d_Md_swap_47 rfl ?_
          refine r_icmp_ne (pc := 49) (tgt := 55) d_Md_swap_49 (by decide) (fun c5 => ?_) (fun c5 => ?_)
          · have hinp : vp_in (qplace (I 122) p l l) 6 := by
              obtain ⟨k, hk, ek, -⟩ := (qplace_in l (Nat.le_refl l)).resolve_left c4
              rw [ek]; exact vp_in_nI (by omega) (by omega)
            have hinq : vp_in (qplace (I 122) q l l) 6 := by
              obtain ⟨k, hk, ek, -⟩ := (qplace_in l (Nat.le_refl l)).resolve_left c5
              rw [ek]; exact vp_in_nI (by omega) (by omega)
            refine lda_n_5_0 (pc := 55) d_Md_swap_55 ?_
            refine g_Md_33 (pc := 56) rfl d_Md_swap_56 (hM.1) (hM.r 7 rfl) ?_
            refine ldi_n_5_3 (pc := 59) d_Md_swap_59 ?_
            refine ldi_n_5_2 (pc := 60) d_Md_swap_60 ?_
            refine r_iast (pc := 61) d_Md_swap_61 (hM.a 7 rfl) (hinp) ?_
            refine r_nmI (fun I7 hI6 => ?_)
            refine lda_n_5_0 (pc := 62) d_Md_swap_62 ?_
            refine g_Md_33 (pc := 63) rfl d_Md_swap_63 (hM.1) (hM.r 7 rfl) ?_
            refine ldi_5_4 (pc := 66) d_Md_swap_66 ?_
            refine ldi_n_5_1 (pc := 68) d_Md_swap_68 ?_
            refine r_iast (pc := 69) d_Md_swap_69 (hM.a 7 rfl) (hinq) ?_
            refine r_nmI (fun I9 hI8 => ?_)
            refine ldi_5_4 (pc := 70) d_Md_swap_70 ?_
            exact r_iret d_Md_swap_72 rfl (by omega) (by omega) ⟨(by first | (rw [ga_Md_swap, if_neg c1, if_neg c2, if_neg c3, if_neg c4, if_neg c5]; done) | (rw [ga_Md_swap, if_neg c1, if_neg c2, if_neg c3, if_neg c4, if_neg c5]; subst_vars; rfl) | (unfold ga_Md_swap; subst_vars; rfl)), rfl, (by first | (rw [gi_Md_swap, if_neg c1, if_neg c2, if_neg c3, if_neg c4, if_neg c5]; done) | (rw [gi_Md_swap, if_neg c1, if_neg c2, if_neg c3, if_neg c4, if_neg c5]; subst_vars; rfl) | (unfold gi_Md_swap; subst_vars; rfl)), (by first | (rw [gj_Md_swap, if_neg c1, if_neg c2, if_neg c3, if_neg c4, if_neg c5]; done) | (rw [gj_Md_swap, if_neg c1, if_neg c2, if_neg c3, if_neg c4, if_neg c5]; subst_vars; rfl) | (unfold gj_Md_swap; subst_vars; rfl))⟩
          · refine r_bipush (pc := 52) (v := (-3)) d_Md_swap_52 rfl ?_
            exact r_iret d_Md_swap_54 rfl (by omega) (by omega) ⟨(by first | (rw [ga_Md_swap, if_neg c1, if_neg c2, if_neg c3, if_neg c4, if_pos c5]; done) | (rw [ga_Md_swap, if_neg c1, if_neg c2, if_neg c3, if_neg c4, if_pos c5]; subst_vars; rfl) | (unfold ga_Md_swap; subst_vars; rfl)), rfl, (by first | (rw [gi_Md_swap, if_neg c1, if_neg c2, if_neg c3, if_neg c4, if_pos c5]; done) | (rw [gi_Md_swap, if_neg c1, if_neg c2, if_neg c3, if_neg c4, if_pos c5]; subst_vars; rfl) | (unfold gi_Md_swap; subst_vars; rfl)), (by first | (rw [gj_Md_swap, if_neg c1, if_neg c2, if_neg c3, if_neg c4, if_pos c5]; done) | (rw [gj_Md_swap, if_neg c1, if_neg c2, if_neg c3, if_neg c4, if_pos c5]; subst_vars; rfl) | (unfold gj_Md_swap; subst_vars; rfl))⟩
      · refine r_bipush (pc := 23) (v := (-2)) d_Md_swap_23 rfl ?_
        exact r_iret d_Md_swap_25 rfl (by omega) (by omega) ⟨(by first | (rw [ga_Md_swap, if_neg c1, if_neg c2, if_pos c3]; done) | (rw [ga_Md_swap, if_neg c1, if_neg c2, if_pos c3]; subst_vars; rfl) | (unfold ga_Md_swap; subst_vars; rfl)), rfl, (by first | (rw [gi_Md_swap, if_neg c1, if_neg c2, if_pos c3]; done) | (rw [gi_Md_swap, if_neg c1, if_neg c2, if_pos c3]; subst_vars; rfl) | (unfold gi_Md_swap; subst_vars; rfl)), (by first | (rw [gj_Md_swap, if_neg c1, if_neg c2, if_pos c3]; done) | (rw [gj_Md_swap, if_neg c1, if_neg c2, if_pos c3]; subst_vars; rfl) | (unfold gj_Md_swap; subst_vars; rfl))⟩
    · refine r_iconst (pc := 16) (v := (-1)) d_Md_swap_16 rfl ?_
      exact r_iret d_Md_swap_17 rfl (by omega) (by omega) ⟨(by first | (rw [ga_Md_swap, if_neg c1, if_pos c2]; done) | (rw [ga_Md_swap, if_neg c1, if_pos c2]; subst_vars; rfl) | (unfold ga_Md_swap; subst_vars; rfl)), rfl, (by first | (rw [gi_Md_swap, if_neg c1, if_pos c2]; done) | (rw [gi_Md_swap, if_neg c1, if_pos c2]; subst_vars; rfl) | (unfold gi_Md_swap; subst_vars; rfl)), (by first | (rw [gj_Md_swap, if_neg c1, if_pos c2]; done) | (rw [gj_Md_swap, if_neg c1, if_pos c2]; subst_vars; rfl) | (unfold gj_Md_swap; subst_vars; rfl))⟩
def ga_Md_row (I : qI) (J : qJ)  (p : Int32) (q : Int32) (n : Int32) : Int32 := (if (qwithin p 0 (I 114 0 - 1)) = 0 then (-1) else (if (qwithin q 0 3) = 0 then (-1) else (if (qwithin n 0 9) = 0 then (-2) else (if (I 115 (p).toNatClampNeg) = 6 then (I 121 (((4 * p) + q)).toNatClampNeg) else (-3)))))
def gi_Md_row (I : qI) (J : qJ)  (p : Int32) (q : Int32) (n : Int32) : qI := (if (qwithin p 0 (I 114 0 - 1)) = 0 then I else (if (qwithin q 0 3) = 0 then I else (if (qwithin n 0 9) = 0 then I else (if (I 115 (p).toNatClampNeg) = 6 then (qup I 121 (((4 * p) + q)).toNatClampNeg n) else I))))
def gj_Md_row (I : qI) (J : qJ)  (p : Int32) (q : Int32) (n : Int32) : qJ := (if (qwithin p 0 (I 114 0 - 1)) = 0 then J else (if (qwithin q 0 3) = 0 then J else (if (qwithin n 0 9) = 0 then J else (if (I 115 (p).toNatClampNeg) = 6 then J else J))))
theorem c_Md_row {p q n : Int32} {c : Nat} (hM : isMd S) (hc : I 114 0 = nI c) (hc6 : c ≤ 6) : qMet E y_Md_row b_Md_row 5 (some .int) 2 0 0 [.ref (qb E + 114), .int p, .int q, .int n] S I J (fun r S' I' J' => r = some (.int (ga_Md_row I J p q n)) ∧ S = S' ∧ I' = gi_Md_row I J p q n ∧ J' = gj_Md_row I J p q n) := by
  refine qMet.of (L := [some (.ref (qb E + 114)), some (.int p), some (.int q), some (.int n), none]) (by decide +kernel) (Nat.le_of_ble_eq_true rfl) rfl ?_
  refine lda_n_5_0 (pc := 0) d_Md_row_0 ?_
  refine ldi_n_5_1 (pc := 1) d_Md_row_1 ?_
  refine r_callV (pc := 2) (As := [.int p]) (k := 9) (N := 56) (T := T_Md) k_Md_127 im_Md_isOne se_Md_isOne rfl (by decide) rfl (by decide) d_Md_row_2 hM.1 (c_Md_isOne hM) rfl (Nat.le_of_ble_eq_true rfl) (by omega) (by omega) (by omega) (fun v' S' I' J' hq => ?_)
  obtain ⟨rfl, rfl, rfl, rfl⟩ := hq
  refine r_if_eq (pc := 5) (tgt := 17) d_Md_row_5 (by decide) (fun c1 => ?_) (fun c1 => ?_)
  · refine r_iconst (pc := 17) (v := (-1)) d_Md_row_17 rfl ?_
    exact r_iret d_Md_row_18 rfl (by omega) (by omega) ⟨(by first | (rw [ga_Md_row, if_pos c1]; done) | (rw [ga_Md_row, if_pos c1]; subst_vars; rfl) | (unfold ga_Md_row; subst_vars; rfl)), rfl, (by first | (rw [gi_Md_row, if_pos c1]; done) | (rw [gi_Md_row, if_pos c1]; subst_vars; rfl) | (unfold gi_Md_row; subst_vars; rfl)), (by first | (rw [gj_Md_row, if_pos c1]; done) | (rw [gj_Md_row, if_pos c1]; subst_vars; rfl) | (unfold gj_Md_row; subst_vars; rfl))⟩
  · obtain ⟨m, hm, em⟩ := qisM_y (show c < 2 ^ 31 by omega) (by rw [← hc]; exact c1)
    refine ldi_n_5_2 (pc := 8) d_Md_row_8 ?_
    refine r_iconst (pc := 9) (v := 0) d_Md_row_9 rfl ?_
    refine r_iconst (pc := 10) (v := 3) d_Md_row_10 rfl ?_
    refine r_callS (pc := 11) (As := [.int q, .int 0, .int 3]) k_Md_120 sw_Md_within rfl (by decide) d_Md_row_11 (c_Md_within _ _ _) rfl (Nat.le_of_ble_eq_true rfl) (by omega) (by omega) (by omega) (fun v' S' I' J' hq => ?_)
    obtain ⟨rfl, rfl, rfl, rfl⟩ := hq
    refine r_if_ne (pc := 14) (tgt := 19) d_Md_row_14 (by decide) (fun c2 => ?_) (fun c2 => ?_)
    · refine ldi_n_5_3 (pc := 19) d_Md_row_19 ?_
      refine r_iconst (pc := 20) (v := 0) d_Md_row_20 rfl ?_
      refine r_bipush (pc := 21) (v := 9) d_Md_row_21 rfl ?_
      refine r_callS (pc := 23) (As := [.int n, .int 0, .int 9]) k_Md_120 sw_Md_within rfl (by decide) d_Md_row_23 (c_Md_within _ _ _) rfl (Nat.le_of_ble_eq_true rfl) (by omega) (by omega) (by omega) (fun v' S' I' J' hq => ?_)
      obtain ⟨rfl, rfl, rfl, rfl⟩ := hq
      refine r_if_ne (pc := 26) (tgt := 32) d_Md_row_26 (by decide) (fun c3 => ?_) (fun c3 => ?_)
      · refine lda_n_5_0 (pc := 32) d_Md_row_32 ?_
        refine g_Md_9 (pc := 33) rfl d_Md_row_33 (hM.1) (hM.r 0 rfl) ?_
        refine ldi_n_5_1 (pc := 36) d_Md_row_36 ?_
        refine r_iald (pc := 37) d_Md_row_37 (hM.a 0 rfl) (by rw [em]; exact vp_in_nI (by omega) (by omega)) ?_
        refine r_bipush (pc := 38) (v := 6) d_Md_row_38 rfl ?_
        refine r_icmp_eq (pc := 40) (tgt := 46) d_Md_row_40 (by decide) (fun c4 => ?_) (fun c4 => ?_)
        · have hin : vp_in ((4 * p) + q) 24 := by
            obtain ⟨y, hy, ey⟩ := qisM_y (c := 4) (x := q) (by omega) c2
            rw [em, ey, show (4 : Int32) = nI 4 from rfl, pk_mul, nI_add]; exact vp_in_nI (by omega) (by omega)
          refine lda_n_5_0 (pc := 46) d_Md_row_46 ?_
          refine g_Md_30 (pc := 47) rfl d_Md_row_47 (hM.1) (hM.r 6 rfl) ?_
          refine r_iconst (pc := 50) (v := 4) d_Md_row_50 rfl ?_
          refine ldi_n_5_1 (pc := 51) d_Md_row_51 ?_
          refine r_imul (pc := 52) d_Md_row_52 ?_
          refine ldi_n_5_2 (pc := 53) d_Md_row_53 ?_
          refine r_iadd (pc := 54) d_Md_row_54 ?_
          refine r_iald (pc := 55) d_Md_row_55 (hM.a 6 rfl) (hin) ?_
          refine sti_5_4 (pc := 56) d_Md_row_56 rfl ?_
          refine lda_n_5_0 (pc := 58) d_Md_row_58 ?_
          refine g_Md_30 (pc := 59) rfl d_Md_row_59 (hM.1) (hM.r 6 rfl) ?_
          refine r_iconst (pc := 62) (v := 4) d_Md_row_62 rfl ?_
          refine ldi_n_5_1 (pc := 63) d_Md_row_63 ?_
          refine r_imul (pc := 64) d_Md_row_64 ?_
          refine ldi_n_5_2 (pc := 65) d_Md_row_65 ?_
          refine r_iadd (pc := 66) d_Md_row_66 ?_
          refine ldi_n_5_3 (pc := 67) d_Md_row_67 ?_
          refine r_iast (pc := 68) d_Md_row_68 (hM.a 6 rfl) (hin) ?_
          refine r_nmI (fun I6 hI5 => ?_)
          refine ldi_5_4 (pc := 69) d_Md_row_69 ?_
          exact r_iret d_Md_row_71 rfl (by omega) (by omega) ⟨(by first | (rw [ga_Md_row, if_neg c1, if_neg c2, if_neg c3, if_pos c4]; done) | (rw [ga_Md_row, if_neg c1, if_neg c2, if_neg c3, if_pos c4]; subst_vars; rfl) | (unfold ga_Md_row; subst_vars; rfl)), rfl, (by first | (rw [gi_Md_row, if_neg c1, if_neg c2, if_neg c3, if_pos c4]; done) | (rw [gi_Md_row, if_neg c1, if_neg c2, if_neg c3, if_pos c4]; subst_vars; rfl) | (unfold gi_Md_row; subst_vars; rfl)), (by first | (rw [gj_Md_row, if_neg c1, if_neg c2, if_neg c3, if_pos c4]; done) | (rw [gj_Md_row, if_neg c1, if_neg c2, if_neg c3, if_pos c4]; subst_vars; rfl) | (unfold gj_Md_row; subst_vars; rfl))⟩
        · refine r_bipush (pc := 43) (v := (-3)) d_Md_row_43 rfl ?_
          exact r_iret d_Md_row_45 rfl (by omega) (by omega) ⟨(by first | (rw [ga_Md_row, if_neg c1, if_neg c2, if_neg c3, if_neg c4]; done) | (rw [ga_Md_row, if_neg c1, if_neg c2, if_neg c3, if_neg c4]; subst_vars; rfl) | (unfold ga_Md_row; subst_vars; rfl)), rfl, (by first | (rw [gi_Md_row, if_neg c1, if_neg c2, if_neg c3, if_neg c4]; done) | (rw [gi_Md_row, if_neg c1, if_neg c2, if_neg c3, if_neg c4]; subst_vars; rfl) | (unfold gi_Md_row; subst_vars; rfl)), (by first | (rw [gj_Md_row, if_neg c1, if_neg c2, if_neg c3, if_neg c4]; done) | (rw [gj_Md_row, if_neg c1, if_neg c2, if_neg c3, if_neg c4]; subst_vars; rfl) | (unfold gj_Md_row; subst_vars; rfl))⟩
      · refine r_bipush (pc := 29) (v := (-2)) d_Md_row_29 rfl ?_
        exact r_iret d_Md_row_31 rfl (by omega) (by omega) ⟨(by first | (rw [ga_Md_row, if_neg c1, if_neg c2, if_pos c3]; done) | (rw [ga_Md_row, if_neg c1, if_neg c2, if_pos c3]; subst_vars; rfl) | (unfold ga_Md_row; subst_vars; rfl)), rfl, (by first | (rw [gi_Md_row, if_neg c1, if_neg c2, if_pos c3]; done) | (rw [gi_Md_row, if_neg c1, if_neg c2, if_pos c3]; subst_vars; rfl) | (unfold gi_Md_row; subst_vars; rfl)), (by first | (rw [gj_Md_row, if_neg c1, if_neg c2, if_pos c3]; done) | (rw [gj_Md_row, if_neg c1, if_neg c2, if_pos c3]; subst_vars; rfl) | (unfold gj_Md_row; subst_vars; rfl))⟩
    · refine r_iconst (pc := 17) (v := (-1)) d_Md_row_17 rfl ?_
      exact r_iret d_Md_row_18 rfl (by omega) (by omega) ⟨(by first | (rw [ga_Md_row, if_neg c1, if_pos c2]; done) | (rw [ga_Md_row, if_neg c1, if_pos c2]; subst_vars; rfl) | (unfold ga_Md_row; subst_vars; rfl)), rfl, (by first | (rw [gi_Md_row, if_neg c1, if_pos c2]; done) | (rw [gi_Md_row, if_neg c1, if_pos c2]; subst_vars; rfl) | (unfold gi_Md_row; subst_vars; rfl)), (by first | (rw [gj_Md_row, if_neg c1, if_pos c2]; done) | (rw [gj_Md_row, if_neg c1, if_pos c2]; subst_vars; rfl) | (unfold gj_Md_row; subst_vars; rfl))⟩
def ga_Md_see (I : qI) (J : qJ)  (p : Int32) (x : Int32) (n : Int32) : Int32 := (if p = (-1) then 0 else (if (qwithin p 0 (I 114 0 - 1)) = 0 then (-1) else (if (qwithin x 0 999) = 0 then (-2) else (if (qwithin n 0 20) = 0 then (-2) else (if (I 114 27) = 5 then (-4) else ((I 114 27) + 1))))))
def gi_Md_see (I : qI) (J : qJ)  (p : Int32) (x : Int32) (n : Int32) : qI := (if p = (-1) then (qup I 114 27 0) else (if (qwithin p 0 (I 114 0 - 1)) = 0 then I else (if (qwithin x 0 999) = 0 then I else (if (qwithin n 0 20) = 0 then I else (if (I 114 27) = 5 then I else (qup (qup (qup (qup I 131 ((I 114 27)).toNatClampNeg p) 132 ((I 114 27)).toNatClampNeg x) 114 27 ((I 114 27) + 1)) 133 ((I 114 27)).toNatClampNeg n))))))
def gj_Md_see (I : qI) (J : qJ)  (p : Int32) (x : Int32) (n : Int32) : qJ := (if p = (-1) then J else (if (qwithin p 0 (I 114 0 - 1)) = 0 then J else (if (qwithin x 0 999) = 0 then J else (if (qwithin n 0 20) = 0 then J else (if (I 114 27) = 5 then J else J)))))
theorem c_Md_see {p x n : Int32} {z : Nat} (hM : isMd S) (hz : I 114 27 = nI z) (hz9 : z ≤ 5) : qMet E y_Md_see b_Md_see 4 (some .int) 2 0 0 [.ref (qb E + 114), .int p, .int x, .int n] S I J (fun r S' I' J' => r = some (.int (ga_Md_see I J p x n)) ∧ S = S' ∧ I' = gi_Md_see I J p x n ∧ J' = gj_Md_see I J p x n) := by
  refine qMet.of (L := [some (.ref (qb E + 114)), some (.int p), some (.int x), some (.int n)]) (by decide +kernel) (Nat.le_of_ble_eq_true rfl) rfl ?_
  refine ldi_n_4_1 (pc := 0) d_Md_see_0 ?_
  refine r_iconst (pc := 1) (v := (-1)) d_Md_see_1 rfl ?_
  refine r_icmp_ne (pc := 2) (tgt := 12) d_Md_see_2 (by decide) (fun c1 => ?_) (fun c1 => ?_)
  · refine lda_n_4_0 (pc := 12) d_Md_see_12 ?_
    refine ldi_n_4_1 (pc := 13) d_Md_see_13 ?_
    refine r_callV (pc := 14) (As := [.int p]) (k := 9) (N := 56) (T := T_Md) k_Md_127 im_Md_isOne se_Md_isOne rfl (by decide) rfl (by decide) d_Md_see_14 hM.1 (c_Md_isOne hM) rfl (Nat.le_of_ble_eq_true rfl) (by omega) (by omega) (by omega) (fun v' S' I' J' hq => ?_)
    obtain ⟨rfl, rfl, rfl, rfl⟩ := hq
    refine r_if_ne (pc := 17) (tgt := 22) d_Md_see_17 (by decide) (fun c2 => ?_) (fun c2 => ?_)
    · refine ldi_n_4_2 (pc := 22) d_Md_see_22 ?_
      refine r_iconst (pc := 23) (v := 0) d_Md_see_23 rfl ?_
      refine r_sipush (pc := 24) (v := 999) d_Md_see_24 rfl ?_
      refine r_callS (pc := 27) (As := [.int x, .int 0, .int 999]) k_Md_120 sw_Md_within rfl (by decide) d_Md_see_27 (c_Md_within _ _ _) rfl (Nat.le_of_ble_eq_true rfl) (by omega) (by omega) (by omega) (fun v' S' I' J' hq => ?_)
      obtain ⟨rfl, rfl, rfl, rfl⟩ := hq
      refine r_if_eq (pc := 30) (tgt := 43) d_Md_see_30 (by decide) (fun c3 => ?_) (fun c3 => ?_)
      · refine r_bipush (pc := 43) (v := (-2)) d_Md_see_43 rfl ?_
        exact r_iret d_Md_see_45 rfl (by omega) (by omega) ⟨(by first | (rw [ga_Md_see, if_neg c1, if_neg c2, if_pos c3]; done) | (rw [ga_Md_see, if_neg c1, if_neg c2, if_pos c3]; subst_vars; rfl) | (unfold ga_Md_see; subst_vars; rfl)), rfl, (by first | (rw [gi_Md_see, if_neg c1, if_neg c2, if_pos c3]; done) | (rw [gi_Md_see, if_neg c1, if_neg c2, if_pos c3]; subst_vars; rfl) | (unfold gi_Md_see; subst_vars; rfl)), (by first | (rw [gj_Md_see, if_neg c1, if_neg c2, if_pos c3]; done) | (rw [gj_Md_see, if_neg c1, if_neg c2, if_pos c3]; subst_vars; rfl) | (unfold gj_Md_see; subst_vars; rfl))⟩
      · refine ldi_n_4_3 (pc := 33) d_Md_see_33 ?_
        refine r_iconst (pc := 34) (v := 0) d_Md_see_34 rfl ?_
        refine r_bipush (pc := 35) (v := 20) d_Md_see_35 rfl ?_
        refine r_callS (pc := 37) (As := [.int n, .int 0, .int 20]) k_Md_120 sw_Md_within rfl (by decide) d_Md_see_37 (c_Md_within _ _ _) rfl (Nat.le_of_ble_eq_true rfl) (by omega) (by omega) (by omega) (fun v' S' I' J' hq => ?_)
        obtain ⟨rfl, rfl, rfl, rfl⟩ := hq
        refine r_if_ne (pc := 40) (tgt := 46) d_Md_see_40 (by decide) (fun c4 => ?_) (fun c4 => ?_)
        · refine lda_n_4_0 (pc := 46) d_Md_see_46 ?_
          refine g_Md_314 (pc := 47) rfl d_Md_see_47 (hM.1) ?_
          refine r_iconst (pc := 50) (v := 5) d_Md_see_50 rfl ?_
          refine r_icmp_ne (pc := 51) (tgt := 57) d_Md_see_51 (by decide) (fun c5 => ?_) (fun c5 => ?_)
          · have hin : vp_in (I 114 27) 5 := by
              rw [hz]
              refine vp_in_nI ?_ (by omega)
              rcases Nat.lt_or_ge z 5 with q | q
              · exact q
              · exact absurd (by rw [hz, show z = 5 by omega]; rfl) c5
            refine lda_n_4_0 (pc := 57) d_Md_see_57 ?_
            refine g_Md_61 (pc := 58) rfl d_Md_see_58 (hM.1) (hM.r 16 rfl) ?_
            refine lda_n_4_0 (pc := 61) d_Md_see_61 ?_
            refine g_Md_314 (pc := 62) rfl d_Md_see_62 (hM.1) ?_
            refine ldi_n_4_1 (pc := 65) d_Md_see_65 ?_
            refine r_iast (pc := 66) d_Md_see_66 (hM.a 16 rfl) (hin) ?_
            refine r_nmI (fun I7 hI6 => ?_)
            refine lda_n_4_0 (pc := 67) d_Md_see_67 ?_
            refine g_Md_64 (pc := 68) rfl d_Md_see_68 (hM.1) (hM.r 17 rfl) ?_
            refine lda_n_4_0 (pc := 71) d_Md_see_71 ?_
            refine g_Md_314 (pc := 72) rfl d_Md_see_72 (hM.1) ?_
            refine r_top (v := (I 114 27)) (by rw [hI6, qup_o (by decide)]) ?_
            refine ldi_n_4_2 (pc := 75) d_Md_see_75 ?_
            refine r_iast (pc := 76) d_Md_see_76 (hM.a 17 rfl) (hin) ?_
            refine r_nmI (fun I9 hI8 => ?_)
            refine lda_n_4_0 (pc := 77) d_Md_see_77 ?_
            refine g_Md_67 (pc := 78) rfl d_Md_see_78 (hM.1) (hM.r 18 rfl) ?_
            refine lda_n_4_0 (pc := 81) d_Md_see_81 ?_
            refine r_dup (pc := 82) d_Md_see_82 rfl ?_
            refine g_Md_314 (pc := 83) rfl d_Md_see_83 (hM.1) ?_
            refine r_top (v := (I 114 27)) (by rw [hI8, qup_o (by decide), hI6, qup_o (by decide)]) ?_
            refine r_dup_x1 (pc := 86) d_Md_see_86 rfl rfl ?_
            refine r_iconst (pc := 87) (v := 1) d_Md_see_87 rfl ?_
            refine r_iadd (pc := 88) d_Md_see_88 ?_
            refine p_Md_314 (pc := 89) rfl d_Md_see_89 (hM.1) ?_
            refine r_nmI (fun I11 hI10 => ?_)
            refine ldi_n_4_3 (pc := 92) d_Md_see_92 ?_
            refine r_iast (pc := 93) d_Md_see_93 (hM.a 18 rfl) (hin) ?_
            refine r_nmI (fun I13 hI12 => ?_)
            refine lda_n_4_0 (pc := 94) d_Md_see_94 ?_
            refine g_Md_314 (pc := 95) rfl d_Md_see_95 (hM.1) ?_
            refine r_top (v := ((I 114 27) + 1)) (by rw [hI12, qup_o (by decide), hI10, qup_at]) ?_
            exact r_iret d_Md_see_98 rfl (by omega) (by omega) ⟨(by first | (rw [ga_Md_see, if_neg c1, if_neg c2, if_neg c3, if_neg c4, if_neg c5]; done) | (rw [ga_Md_see, if_neg c1, if_neg c2, if_neg c3, if_neg c4, if_neg c5]; subst_vars; rfl) | (unfold ga_Md_see; subst_vars; rfl)), rfl, (by first | (rw [gi_Md_see, if_neg c1, if_neg c2, if_neg c3, if_neg c4, if_neg c5]; done) | (rw [gi_Md_see, if_neg c1, if_neg c2, if_neg c3, if_neg c4, if_neg c5]; subst_vars; rfl) | (unfold gi_Md_see; subst_vars; rfl)), (by first | (rw [gj_Md_see, if_neg c1, if_neg c2, if_neg c3, if_neg c4, if_neg c5]; done) | (rw [gj_Md_see, if_neg c1, if_neg c2, if_neg c3, if_neg c4, if_neg c5]; subst_vars; rfl) | (unfold gj_Md_see; subst_vars; rfl))⟩
          · refine r_bipush (pc := 54) (v := (-4)) d_Md_see_54 rfl ?_
            exact r_iret d_Md_see_56 rfl (by omega) (by omega) ⟨(by first | (rw [ga_Md_see, if_neg c1, if_neg c2, if_neg c3, if_neg c4, if_pos c5]; done) | (rw [ga_Md_see, if_neg c1, if_neg c2, if_neg c3, if_neg c4, if_pos c5]; subst_vars; rfl) | (unfold ga_Md_see; subst_vars; rfl)), rfl, (by first | (rw [gi_Md_see, if_neg c1, if_neg c2, if_neg c3, if_neg c4, if_pos c5]; done) | (rw [gi_Md_see, if_neg c1, if_neg c2, if_neg c3, if_neg c4, if_pos c5]; subst_vars; rfl) | (unfold gi_Md_see; subst_vars; rfl)), (by first | (rw [gj_Md_see, if_neg c1, if_neg c2, if_neg c3, if_neg c4, if_pos c5]; done) | (rw [gj_Md_see, if_neg c1, if_neg c2, if_neg c3, if_neg c4, if_pos c5]; subst_vars; rfl) | (unfold gj_Md_see; subst_vars; rfl))⟩
        · refine r_bipush (pc := 43) (v := (-2)) d_Md_see_43 rfl ?_
          exact r_iret d_Md_see_45 rfl (by omega) (by omega) ⟨(by first | (rw [ga_Md_see, if_neg c1, if_neg c2, if_neg c3, if_pos c4]; done) | (rw [ga_Md_see, if_neg c1, if_neg c2, if_neg c3, if_pos c4]; subst_vars; rfl) | (unfold ga_Md_see; subst_vars; rfl)), rfl, (by first | (rw [gi_Md_see, if_neg c1, if_neg c2, if_neg c3, if_pos c4]; done) | (rw [gi_Md_see, if_neg c1, if_neg c2, if_neg c3, if_pos c4]; subst_vars; rfl) | (unfold gi_Md_see; subst_vars; rfl)), (by first | (rw [gj_Md_see, if_neg c1, if_neg c2, if_neg c3, if_pos c4]; done) | (rw [gj_Md_see, if_neg c1, if_neg c2, if_neg c3, if_pos c4]; subst_vars; rfl) | (unfold gj_Md_see; subst_vars; rfl))⟩
    · refine r_iconst (pc := 20) (v := (-1)) d_Md_see_20 rfl ?_
      exact r_iret d_Md_see_21 rfl (by omega) (by omega) ⟨(by first | (rw [ga_Md_see, if_neg c1, if_pos c2]; done) | (rw [ga_Md_see, if_neg c1, if_pos c2]; subst_vars; rfl) | (unfold ga_Md_see; subst_vars; rfl)), rfl, (by first | (rw [gi_Md_see, if_neg c1, if_pos c2]; done) | (rw [gi_Md_see, if_neg c1, if_pos c2]; subst_vars; rfl) | (unfold gi_Md_see; subst_vars; rfl)), (by first | (rw [gj_Md_see, if_neg c1, if_pos c2]; done) | (rw [gj_Md_see, if_neg c1, if_pos c2]; subst_vars; rfl) | (unfold gj_Md_see; subst_vars; rfl))⟩
  · refine lda_n_4_0 (pc := 5) d_Md_see_5 ?_
    refine r_iconst (pc := 6) (v := 0) d_Md_see_6 rfl ?_
    refine p_Md_314 (pc := 7) rfl d_Md_see_7 (hM.1) ?_
    refine r_nmI (fun I15 hI14 => ?_)
    refine r_iconst (pc := 10) (v := 0) d_Md_see_10 rfl ?_
    exact r_iret d_Md_see_11 rfl (by omega) (by omega) ⟨(by first | (rw [ga_Md_see, if_pos c1]; done) | (rw [ga_Md_see, if_pos c1]; subst_vars; rfl) | (unfold ga_Md_see; subst_vars; rfl)), rfl, (by first | (rw [gi_Md_see, if_pos c1]; done) | (rw [gi_Md_see, if_pos c1]; subst_vars; rfl) | (unfold gi_Md_see; subst_vars; rfl)), (by first | (rw [gj_Md_see, if_pos c1]; done) | (rw [gj_Md_see, if_pos c1]; subst_vars; rfl) | (unfold gj_Md_see; subst_vars; rfl))⟩
def ga_Md_plan (I : qI) (J : qJ)  (x : Int32) (p : Int32) : Int32 := (if x = (-1) then 0 else (if (qwithin x 0 3) = 0 then (-1) else (if x ≤ 0 then (if (I 114 31) = 10 then (-4) else (if x = 0 then ((I 114 31) + 1) else ((I 114 31) + 1))) else (if (qwithin p 0 (I 114 0 - 1)) = 0 then (-1) else (if (I 114 31) = 10 then (-4) else (if x = 0 then ((I 114 31) + 1) else ((I 114 31) + 1)))))))
def gi_Md_plan (I : qI) (J : qJ)  (x : Int32) (p : Int32) : qI := (if x = (-1) then (qup I 114 31 0) else (if (qwithin x 0 3) = 0 then I else (if x ≤ 0 then (if (I 114 31) = 10 then I else (if x = 0 then (qup (qup (qup I 134 ((I 114 31)).toNatClampNeg x) 114 31 ((I 114 31) + 1)) 135 ((I 114 31)).toNatClampNeg 0) else (qup (qup (qup I 134 ((I 114 31)).toNatClampNeg x) 114 31 ((I 114 31) + 1)) 135 ((I 114 31)).toNatClampNeg p))) else (if (qwithin p 0 (I 114 0 - 1)) = 0 then I else (if (I 114 31) = 10 then I else (if x = 0 then (qup (qup (qup I 134 ((I 114 31)).toNatClampNeg x) 114 31 ((I 114 31) + 1)) 135 ((I 114 31)).toNatClampNeg 0) else (qup (qup (qup I 134 ((I 114 31)).toNatClampNeg x) 114 31 ((I 114 31) + 1)) 135 ((I 114 31)).toNatClampNeg p)))))))
def gj_Md_plan (I : qI) (J : qJ)  (x : Int32) (p : Int32) : qJ := (if x = (-1) then J else (if (qwithin x 0 3) = 0 then J else (if x ≤ 0 then (if (I 114 31) = 10 then J else (if x = 0 then J else J)) else (if (qwithin p 0 (I 114 0 - 1)) = 0 then J else (if (I 114 31) = 10 then J else (if x = 0 then J else J))))))
theorem c_Md_plan {x p : Int32} {z : Nat} (hM : isMd S) (hz : I 114 31 = nI z) (hz9 : z ≤ 10) : qMet E y_Md_plan b_Md_plan 3 (some .int) 2 0 0 [.ref (qb E + 114), .int x, .int p] S I J (fun r S' I' J' => r = some (.int (ga_Md_plan I J x p)) ∧ S = S' ∧ I' = gi_Md_plan I J x p ∧ J' = gj_Md_plan I J x p) := by
  refine qMet.of (L := [some (.ref (qb E + 114)), some (.int x), some (.int p)]) (by decide +kernel) (Nat.le_of_ble_eq_true rfl) rfl ?_
  refine ldi_n_3_1 (pc := 0) d_Md_plan_0 ?_
  refine r_iconst (pc := 1) (v := (-1)) d_Md_plan_1 rfl ?_
  refine r_icmp_ne (pc := 2) (tgt := 12) d_Md_plan_2 (by decide) (fun c1 => ?_) (fun c1 => ?_)
  · refine ldi_n_3_1 (pc := 12) d_Md_plan_12 ?_
    refine r_iconst (pc := 13) (v := 0) d_Md_plan_13 rfl ?_
    refine r_iconst (pc := 14) (v := 3) d_Md_plan_14 rfl ?_
    refine r_callS (pc := 15) (As := [.int x, .int 0, .int 3]) k_Md_120 sw_Md_within rfl (by decide) d_Md_plan_15 (c_Md_within _ _ _) rfl (Nat.le_of_ble_eq_true rfl) (by omega) (by omega) (by omega) (fun v' S' I' J' hq => ?_)
    obtain ⟨rfl, rfl, rfl, rfl⟩ := hq
    refine r_if_eq (pc := 18) (tgt := 33) d_Md_plan_18 (by decide) (fun c2 => ?_) (fun c2 => ?_)
    · refine r_iconst (pc := 33) (v := (-1)) d_Md_plan_33 rfl ?_
      exact r_iret d_Md_plan_34 rfl (by omega) (by omega) ⟨(by first | (rw [ga_Md_plan, if_neg c1, if_pos c2]; done) | (rw [ga_Md_plan, if_neg c1, if_pos c2]; subst_vars; rfl) | (unfold ga_Md_plan; subst_vars; rfl)), rfl, (by first | (rw [gi_Md_plan, if_neg c1, if_pos c2]; done) | (rw [gi_Md_plan, if_neg c1, if_pos c2]; subst_vars; rfl) | (unfold gi_Md_plan; subst_vars; rfl)), (by first | (rw [gj_Md_plan, if_neg c1, if_pos c2]; done) | (rw [gj_Md_plan, if_neg c1, if_pos c2]; subst_vars; rfl) | (unfold gj_Md_plan; subst_vars; rfl))⟩
    · refine ldi_n_3_1 (pc := 21) d_Md_plan_21 ?_
      refine r_if_le (pc := 22) (tgt := 35) d_Md_plan_22 (by decide) (fun c3 => ?_) (fun c3 => ?_)
      · refine lda_n_3_0 (pc := 35) d_Md_plan_35 ?_
        refine g_Md_333 (pc := 36) rfl d_Md_plan_36 (hM.1) ?_
        refine r_bipush (pc := 39) (v := 10) d_Md_plan_39 rfl ?_
        refine r_icmp_ne (pc := 41) (tgt := 47) d_Md_plan_41 (by decide) (fun c4 => ?_) (fun c4 => ?_)
        · have hin : vp_in (I 114 31) 10 := by
            rw [hz]
            refine vp_in_nI ?_ (by omega)
            rcases Nat.lt_or_ge z 10 with q | q
            · exact q
            · exact absurd (by rw [hz, show z = 10 by omega]; rfl) c4
          refine lda_n_3_0 (pc := 47) d_Md_plan_47 ?_
          refine g_Md_70 (pc := 48) rfl d_Md_plan_48 (hM.1) (hM.r 19 rfl) ?_
          refine lda_n_3_0 (pc := 51) d_Md_plan_51 ?_
          refine g_Md_333 (pc := 52) rfl d_Md_plan_52 (hM.1) ?_
          refine ldi_n_3_1 (pc := 55) d_Md_plan_55 ?_
          refine r_iast (pc := 56) d_Md_plan_56 (hM.a 19 rfl) (hin) ?_
          refine r_nmI (fun I6 hI5 => ?_)
          refine lda_n_3_0 (pc := 57) d_Md_plan_57 ?_
          refine g_Md_73 (pc := 58) rfl d_Md_plan_58 (hM.1) (hM.r 20 rfl) ?_
          refine lda_n_3_0 (pc := 61) d_Md_plan_61 ?_
          refine r_dup (pc := 62) d_Md_plan_62 rfl ?_
          refine g_Md_333 (pc := 63) rfl d_Md_plan_63 (hM.1) ?_
          refine r_top (v := (I 114 31)) (by rw [hI5, qup_o (by decide)]) ?_
          refine r_dup_x1 (pc := 66) d_Md_plan_66 rfl rfl ?_
          refine r_iconst (pc := 67) (v := 1) d_Md_plan_67 rfl ?_
          refine r_iadd (pc := 68) d_Md_plan_68 ?_
          refine p_Md_333 (pc := 69) rfl d_Md_plan_69 (hM.1) ?_
          refine r_nmI (fun I8 hI7 => ?_)
          refine ldi_n_3_1 (pc := 72) d_Md_plan_72 ?_
          refine r_if_ne (pc := 73) (tgt := 80) d_Md_plan_73 (by decide) (fun c9 => ?_) (fun c9 => ?_)
          · refine ldi_n_3_2 (pc := 80) d_Md_plan_80 ?_
            refine r_iast (pc := 81) d_Md_plan_81 (hM.a 20 rfl) (hin) ?_
            refine r_nmI (fun I11 hI10 => ?_)
            refine lda_n_3_0 (pc := 82) d_Md_plan_82 ?_
            refine g_Md_333 (pc := 83) rfl d_Md_plan_83 (hM.1) ?_
            refine r_top (v := ((I 114 31) + 1)) (by rw [hI10, qup_o (by decide), hI7, qup_at]) ?_
            exact r_iret d_Md_plan_86 rfl (by omega) (by omega) ⟨(by first | (rw [ga_Md_plan, if_neg c1, if_neg c2, if_pos c3, if_neg c4, if_neg c9]; done) | (rw [ga_Md_plan, if_neg c1, if_neg c2, if_pos c3, if_neg c4, if_neg c9]; subst_vars; rfl) | (unfold ga_Md_plan; subst_vars; rfl)), rfl, (by first | (rw [gi_Md_plan, if_neg c1, if_neg c2, if_pos c3, if_neg c4, if_neg c9]; done) | (rw [gi_Md_plan, if_neg c1, if_neg c2, if_pos c3, if_neg c4, if_neg c9]; subst_vars; rfl) | (unfold gi_Md_plan; subst_vars; rfl)), (by first | (rw [gj_Md_plan, if_neg c1, if_neg c2, if_pos c3, if_neg c4, if_neg c9]; done) | (rw [gj_Md_plan, if_neg c1, if_neg c2, if_pos c3, if_neg c4, if_neg c9]; subst_vars; rfl) | (unfold gj_Md_plan; subst_vars; rfl))⟩
          · refine r_iconst (pc := 76) (v := 0) d_Md_plan_76 rfl ?_
            refine r_goto (pc := 77) (tgt := 81) d_Md_plan_77 (by decide) ?_
            refine r_iast (pc := 81) d_Md_plan_81 (hM.a 20 rfl) (hin) ?_
            refine r_nmI (fun I13 hI12 => ?_)
            refine lda_n_3_0 (pc := 82) d_Md_plan_82 ?_
            refine g_Md_333 (pc := 83) rfl d_Md_plan_83 (hM.1) ?_
            refine r_top (v := ((I 114 31) + 1)) (by rw [hI12, qup_o (by decide), hI7, qup_at]) ?_
            exact r_iret d_Md_plan_86 rfl (by omega) (by omega) ⟨(by first | (rw [ga_Md_plan, if_neg c1, if_neg c2, if_pos c3, if_neg c4, if_pos c9]; done) | (rw [ga_Md_plan, if_neg c1, if_neg c2, if_pos c3, if_neg c4, if_pos c9]; subst_vars; rfl) | (unfold ga_Md_plan; subst_vars; rfl)), rfl, (by first | (rw [gi_Md_plan, if_neg c1, if_neg c2, if_pos c3, if_neg c4, if_pos c9]; done) | (rw [gi_Md_plan, if_neg c1, if_neg c2, if_pos c3, if_neg c4, if_pos c9]; subst_vars; rfl) | (unfold gi_Md_plan; subst_vars; rfl)), (by first | (rw [gj_Md_plan, if_neg c1, if_neg c2, if_pos c3, if_neg c4, if_pos c9]; done) | (rw [gj_Md_plan, if_neg c1, if_neg c2, if_pos c3, if_neg c4, if_pos c9]; subst_vars; rfl) | (unfold gj_Md_plan; subst_vars; rfl))⟩
        · refine r_bipush (pc := 44) (v := (-4)) d_Md_plan_44 rfl ?_
          exact r_iret d_Md_plan_46 rfl (by omega) (by omega) ⟨(by first | (rw [ga_Md_plan, if_neg c1, if_neg c2, if_pos c3, if_pos c4]; done) | (rw [ga_Md_plan, if_neg c1, if_neg c2, if_pos c3, if_pos c4]; subst_vars; rfl) | (unfold ga_Md_plan; subst_vars; rfl)), rfl, (by first | (rw [gi_Md_plan, if_neg c1, if_neg c2, if_pos c3, if_pos c4]; done) | (rw [gi_Md_plan, if_neg c1, if_neg c2, if_pos c3, if_pos c4]; subst_vars; rfl) | (unfold gi_Md_plan; subst_vars; rfl)), (by first | (rw [gj_Md_plan, if_neg c1, if_neg c2, if_pos c3, if_pos c4]; done) | (rw [gj_Md_plan, if_neg c1, if_neg c2, if_pos c3, if_pos c4]; subst_vars; rfl) | (unfold gj_Md_plan; subst_vars; rfl))⟩
      · refine lda_n_3_0 (pc := 25) d_Md_plan_25 ?_
        refine ldi_n_3_2 (pc := 26) d_Md_plan_26 ?_
        refine r_callV (pc := 27) (As := [.int p]) (k := 9) (N := 56) (T := T_Md) k_Md_127 im_Md_isOne se_Md_isOne rfl (by decide) rfl (by decide) d_Md_plan_27 hM.1 (c_Md_isOne hM) rfl (Nat.le_of_ble_eq_true rfl) (by omega) (by omega) (by omega) (fun v' S' I' J' hq => ?_)
        obtain ⟨rfl, rfl, rfl, rfl⟩ := hq
        refine r_if_ne (pc := 30) (tgt := 35) d_Md_plan_30 (by decide) (fun c14 => ?_) (fun c14 => ?_)
        · refine lda_n_3_0 (pc := 35) d_Md_plan_35 ?_
          refine g_Md_333 (pc := 36) rfl d_Md_plan_36 (hM.1) ?_
          refine r_bipush (pc := 39) (v := 10) d_Md_plan_39 rfl ?_
          refine r_icmp_ne (pc := 41) (tgt := 47) d_Md_plan_41 (by decide) (fun c15 => ?_) (fun c15 => ?_)
          · have hin : vp_in (I 114 31) 10 := by
              rw [hz]
              refine vp_in_nI ?_ (by omega)
              rcases Nat.lt_or_ge z 10 with q | q
              · exact q
              · exact absurd (by rw [hz, show z = 10 by omega]; rfl) c15
            refine lda_n_3_0 (pc := 47) d_Md_plan_47 ?_
            refine g_Md_70 (pc := 48) rfl d_Md_plan_48 (hM.1) (hM.r 19 rfl) ?_
            refine lda_n_3_0 (pc := 51) d_Md_plan_51 ?_
            refine g_Md_333 (pc := 52) rfl d_Md_plan_52 (hM.1) ?_
            refine ldi_n_3_1 (pc := 55) d_Md_plan_55 ?_
            refine r_iast (pc := 56) d_Md_plan_56 (hM.a 19 rfl) (hin) ?_
            refine r_nmI (fun I17 hI16 => ?_)
            refine lda_n_3_0 (pc := 57) d_Md_plan_57 ?_
            refine g_Md_73 (pc := 58) rfl d_Md_plan_58 (hM.1) (hM.r 20 rfl) ?_
            refine lda_n_3_0 (pc := 61) d_Md_plan_61 ?_
            refine r_dup (pc := 62) d_Md_plan_62 rfl ?_
            refine g_Md_333 (pc := 63) rfl d_Md_plan_63 (hM.1) ?_
            refine r_top (v := (I 114 31)) (by rw [hI16, qup_o (by decide)]) ?_
            refine r_dup_x1 (pc := 66) d_Md_plan_66 rfl rfl ?_
            refine r_iconst (pc := 67) (v := 1) d_Md_plan_67 rfl ?_
            refine r_iadd (pc := 68) d_Md_plan_68 ?_
            refine p_Md_333 (pc := 69) rfl d_Md_plan_69 (hM.1) ?_
            refine r_nmI (fun I19 hI18 => ?_)
            refine ldi_n_3_1 (pc := 72) d_Md_plan_72 ?_
            refine r_if_ne (pc := 73) (tgt := 80) d_Md_plan_73 (by decide) (fun c20 => ?_) (fun c20 => ?_)
            · refine ldi_n_3_2 (pc := 80) d_Md_plan_80 ?_
              refine r_iast (pc := 81) d_Md_plan_81 (hM.a 20 rfl) (hin) ?_
              refine r_nmI (fun I22 hI21 => ?_)
              refine lda_n_3_0 (pc := 82) d_Md_plan_82 ?_
              refine g_Md_333 (pc := 83) rfl d_Md_plan_83 (hM.1) ?_
              refine r_top (v := ((I 114 31) + 1)) (by rw [hI21, qup_o (by decide), hI18, qup_at]) ?_
              exact r_iret d_Md_plan_86 rfl (by omega) (by omega) ⟨(by first | (rw [ga_Md_plan, if_neg c1, if_neg c2, if_neg c3, if_neg c14, if_neg c15, if_neg c20]; done) | (rw [ga_Md_plan, if_neg c1, if_neg c2, if_neg c3, if_neg c14, if_neg c15, if_neg c20]; subst_vars; rfl) | (unfold ga_Md_plan; subst_vars; rfl)), rfl, (by first | (rw [gi_Md_plan, if_neg c1, if_neg c2, if_neg c3, if_neg c14, if_neg c15, if_neg c20]; done) | (rw [gi_Md_plan, if_neg c1, if_neg c2, if_neg c3, if_neg c14, if_neg c15, if_neg c20]; subst_vars; rfl) | (unfold gi_Md_plan; subst_vars; rfl)), (by first | (rw [gj_Md_plan, if_neg c1, if_neg c2, if_neg c3, if_neg c14, if_neg c15, if_neg c20]; done) | (rw [gj_Md_plan, if_neg c1, if_neg c2, if_neg c3, if_neg c14, if_neg c15, if_neg c20]; subst_vars; rfl) | (unfold gj_Md_plan; subst_vars; rfl))⟩
            · refine r_iconst (pc := 76) (v := 0) d_Md_plan_76 rfl ?_
              refine r_goto (pc := 77) (tgt := 81) d_Md_plan_77 (by decide) ?_
              refine r_iast (pc := 81) d_Md_plan_81 (hM.a 20 rfl) (hin) ?_
              refine r_nmI (fun I24 hI23 => ?_)
              refine lda_n_3_0 (pc := 82) d_Md_plan_82 ?_
              refine g_Md_333 (pc := 83) rfl d_Md_plan_83 (hM.1) ?_
              refine r_top (v := ((I 114 31) + 1)) (by rw [hI23, qup_o (by decide), hI18, qup_at]) ?_
              exact r_iret d_Md_plan_86 rfl (by omega) (by omega) ⟨(by first | (rw [ga_Md_plan, if_neg c1, if_neg c2, if_neg c3, if_neg c14, if_neg c15, if_pos c20]; done) | (rw [ga_Md_plan, if_neg c1, if_neg c2, if_neg c3, if_neg c14, if_neg c15, if_pos c20]; subst_vars; rfl) | (unfold ga_Md_plan; subst_vars; rfl)), rfl, (by first | (rw [gi_Md_plan, if_neg c1, if_neg c2, if_neg c3, if_neg c14, if_neg c15, if_pos c20]; done) | (rw [gi_Md_plan, if_neg c1, if_neg c2, if_neg c3, if_neg c14, if_neg c15, if_pos c20]; subst_vars; rfl) | (unfold gi_Md_plan; subst_vars; rfl)), (by first | (rw [gj_Md_plan, if_neg c1, if_neg c2, if_neg c3, if_neg c14, if_neg c15, if_pos c20]; done) | (rw [gj_Md_plan, if_neg c1, if_neg c2, if_neg c3, if_neg c14, if_neg c15, if_pos c20]; subst_vars; rfl) | (unfold gj_Md_plan; subst_vars; rfl))⟩
          · refine r_bipush (pc := 44) (v := (-4)) d_Md_plan_44 rfl ?_
            exact r_iret d_Md_plan_46 rfl (by omega) (by omega) ⟨(by first | (rw [ga_Md_plan, if_neg c1, if_neg c2, if_neg c3, if_neg c14, if_pos c15]; done) | (rw [ga_Md_plan, if_neg c1, if_neg c2, if_neg c3, if_neg c14, if_pos c15]; subst_vars; rfl) | (unfold ga_Md_plan; subst_vars; rfl)), rfl, (by first | (rw [gi_Md_plan, if_neg c1, if_neg c2, if_neg c3, if_neg c14, if_pos c15]; done) | (rw [gi_Md_plan, if_neg c1, if_neg c2, if_neg c3, if_neg c14, if_pos c15]; subst_vars; rfl) | (unfold gi_Md_plan; subst_vars; rfl)), (by first | (rw [gj_Md_plan, if_neg c1, if_neg c2, if_neg c3, if_neg c14, if_pos c15]; done) | (rw [gj_Md_plan, if_neg c1, if_neg c2, if_neg c3, if_neg c14, if_pos c15]; subst_vars; rfl) | (unfold gj_Md_plan; subst_vars; rfl))⟩
        · refine r_iconst (pc := 33) (v := (-1)) d_Md_plan_33 rfl ?_
          exact r_iret d_Md_plan_34 rfl (by omega) (by omega) ⟨(by first | (rw [ga_Md_plan, if_neg c1, if_neg c2, if_neg c3, if_pos c14]; done) | (rw [ga_Md_plan, if_neg c1, if_neg c2, if_neg c3, if_pos c14]; subst_vars; rfl) | (unfold ga_Md_plan; subst_vars; rfl)), rfl, (by first | (rw [gi_Md_plan, if_neg c1, if_neg c2, if_neg c3, if_pos c14]; done) | (rw [gi_Md_plan, if_neg c1, if_neg c2, if_neg c3, if_pos c14]; subst_vars; rfl) | (unfold gi_Md_plan; subst_vars; rfl)), (by first | (rw [gj_Md_plan, if_neg c1, if_neg c2, if_neg c3, if_pos c14]; done) | (rw [gj_Md_plan, if_neg c1, if_neg c2, if_neg c3, if_pos c14]; subst_vars; rfl) | (unfold gj_Md_plan; subst_vars; rfl))⟩
  · refine lda_n_3_0 (pc := 5) d_Md_plan_5 ?_
    refine r_iconst (pc := 6) (v := 0) d_Md_plan_6 rfl ?_
    refine p_Md_333 (pc := 7) rfl d_Md_plan_7 (hM.1) ?_
    refine r_nmI (fun I26 hI25 => ?_)
    refine r_iconst (pc := 10) (v := 0) d_Md_plan_10 rfl ?_
    exact r_iret d_Md_plan_11 rfl (by omega) (by omega) ⟨(by first | (rw [ga_Md_plan, if_pos c1]; done) | (rw [ga_Md_plan, if_pos c1]; subst_vars; rfl) | (unfold ga_Md_plan; subst_vars; rfl)), rfl, (by first | (rw [gi_Md_plan, if_pos c1]; done) | (rw [gi_Md_plan, if_pos c1]; subst_vars; rfl) | (unfold gi_Md_plan; subst_vars; rfl)), (by first | (rw [gj_Md_plan, if_pos c1]; done) | (rw [gj_Md_plan, if_pos c1]; subst_vars; rfl) | (unfold gj_Md_plan; subst_vars; rfl))⟩
def ga_Md_book (I : qI) (J : qJ)  (p : Int32) (x : Int32) : Int32 := (if p = (-1) then 0 else (if (qwithin p 0 (I 114 0 - 1)) = 0 then (-1) else (if (qwithin x 0 99999) = 0 then (-2) else (if (I 114 34) = 8 then (-4) else ((I 114 34) + 1)))))
def gi_Md_book (I : qI) (J : qJ)  (p : Int32) (x : Int32) : qI := (if p = (-1) then (qup I 114 34 0) else (if (qwithin p 0 (I 114 0 - 1)) = 0 then I else (if (qwithin x 0 99999) = 0 then I else (if (I 114 34) = 8 then I else (qup (qup (qup I 136 ((I 114 34)).toNatClampNeg p) 114 34 ((I 114 34) + 1)) 137 ((I 114 34)).toNatClampNeg x)))))
def gj_Md_book (I : qI) (J : qJ)  (p : Int32) (x : Int32) : qJ := (if p = (-1) then J else (if (qwithin p 0 (I 114 0 - 1)) = 0 then J else (if (qwithin x 0 99999) = 0 then J else (if (I 114 34) = 8 then J else J))))
theorem c_Md_book {p x : Int32} {z : Nat} (hM : isMd S) (hz : I 114 34 = nI z) (hz9 : z ≤ 8) : qMet E y_Md_book b_Md_book 3 (some .int) 2 0 0 [.ref (qb E + 114), .int p, .int x] S I J (fun r S' I' J' => r = some (.int (ga_Md_book I J p x)) ∧ S = S' ∧ I' = gi_Md_book I J p x ∧ J' = gj_Md_book I J p x) := by
  refine qMet.of (L := [some (.ref (qb E + 114)), some (.int p), some (.int x)]) (by decide +kernel) (Nat.le_of_ble_eq_true rfl) rfl ?_
  refine ldi_n_3_1 (pc := 0) d_Md_book_0 ?_
  refine r_iconst (pc := 1) (v := (-1)) d_Md_book_1 rfl ?_
  refine r_icmp_ne (pc := 2) (tgt := 12) d_Md_book_2 (by decide) (fun c1 => ?_) (fun c1 => ?_)
  · refine lda_n_3_0 (pc := 12) d_Md_book_12 ?_
    refine ldi_n_3_1 (pc := 13) d_Md_book_13 ?_
    refine r_callV (pc := 14) (As := [.int p]) (k := 9) (N := 56) (T := T_Md) k_Md_127 im_Md_isOne se_Md_isOne rfl (by decide) rfl (by decide) d_Md_book_14 hM.1 (c_Md_isOne hM) rfl (Nat.le_of_ble_eq_true rfl) (by omega) (by omega) (by omega) (fun v' S' I' J' hq => ?_)
    obtain ⟨rfl, rfl, rfl, rfl⟩ := hq
    refine r_if_ne (pc := 17) (tgt := 22) d_Md_book_17 (by decide) (fun c2 => ?_) (fun c2 => ?_)
    · refine ldi_n_3_2 (pc := 22) d_Md_book_22 ?_
      refine r_iconst (pc := 23) (v := 0) d_Md_book_23 rfl ?_
      refine r_ldc (pc := 24) ct_Md_142 d_Md_book_24 ?_
      refine r_callS (pc := 26) (As := [.int x, .int 0, .int 99999]) k_Md_120 sw_Md_within rfl (by decide) d_Md_book_26 (c_Md_within _ _ _) rfl (Nat.le_of_ble_eq_true rfl) (by omega) (by omega) (by omega) (fun v' S' I' J' hq => ?_)
      obtain ⟨rfl, rfl, rfl, rfl⟩ := hq
      refine r_if_ne (pc := 29) (tgt := 35) d_Md_book_29 (by decide) (fun c3 => ?_) (fun c3 => ?_)
      · refine lda_n_3_0 (pc := 35) d_Md_book_35 ?_
        refine g_Md_336 (pc := 36) rfl d_Md_book_36 (hM.1) ?_
        refine r_bipush (pc := 39) (v := 8) d_Md_book_39 rfl ?_
        refine r_icmp_ne (pc := 41) (tgt := 47) d_Md_book_41 (by decide) (fun c4 => ?_) (fun c4 => ?_)
        · have hin : vp_in (I 114 34) 8 := by
            rw [hz]
            refine vp_in_nI ?_ (by omega)
            rcases Nat.lt_or_ge z 8 with q | q
            · exact q
            · exact absurd (by rw [hz, show z = 8 by omega]; rfl) c4
          refine lda_n_3_0 (pc := 47) d_Md_book_47 ?_
          refine g_Md_76 (pc := 48) rfl d_Md_book_48 (hM.1) (hM.r 21 rfl) ?_
          refine lda_n_3_0 (pc := 51) d_Md_book_51 ?_
          refine g_Md_336 (pc := 52) rfl d_Md_book_52 (hM.1) ?_
          refine ldi_n_3_1 (pc := 55) d_Md_book_55 ?_
          refine r_iast (pc := 56) d_Md_book_56 (hM.a 21 rfl) (hin) ?_
          refine r_nmI (fun I6 hI5 => ?_)
          refine lda_n_3_0 (pc := 57) d_Md_book_57 ?_
          refine g_Md_79 (pc := 58) rfl d_Md_book_58 (hM.1) (hM.r 22 rfl) ?_
          refine lda_n_3_0 (pc := 61) d_Md_book_61 ?_
          refine r_dup (pc := 62) d_Md_book_62 rfl ?_
          refine g_Md_336 (pc := 63) rfl d_Md_book_63 (hM.1) ?_
          refine r_top (v := (I 114 34)) (by rw [hI5, qup_o (by decide)]) ?_
          refine r_dup_x1 (pc := 66) d_Md_book_66 rfl rfl ?_
          refine r_iconst (pc := 67) (v := 1) d_Md_book_67 rfl ?_
          refine r_iadd (pc := 68) d_Md_book_68 ?_
          refine p_Md_336 (pc := 69) rfl d_Md_book_69 (hM.1) ?_
          refine r_nmI (fun I8 hI7 => ?_)
          refine ldi_n_3_2 (pc := 72) d_Md_book_72 ?_
          refine r_iast (pc := 73) d_Md_book_73 (hM.a 22 rfl) (hin) ?_
          refine r_nmI (fun I10 hI9 => ?_)
          refine lda_n_3_0 (pc := 74) d_Md_book_74 ?_
          refine g_Md_336 (pc := 75) rfl d_Md_book_75 (hM.1) ?_
          refine r_top (v := ((I 114 34) + 1)) (by rw [hI9, qup_o (by decide), hI7, qup_at]) ?_
          exact r_iret d_Md_book_78 rfl (by omega) (by omega) ⟨(by first | (rw [ga_Md_book, if_neg c1, if_neg c2, if_neg c3, if_neg c4]; done) | (rw [ga_Md_book, if_neg c1, if_neg c2, if_neg c3, if_neg c4]; subst_vars; rfl) | (unfold ga_Md_book; subst_vars; rfl)), rfl, (by first | (rw [gi_Md_book, if_neg c1, if_neg c2, if_neg c3, if_neg c4]; done) | (rw [gi_Md_book, if_neg c1, if_neg c2, if_neg c3, if_neg c4]; subst_vars; rfl) | (unfold gi_Md_book; subst_vars; rfl)), (by first | (rw [gj_Md_book, if_neg c1, if_neg c2, if_neg c3, if_neg c4]; done) | (rw [gj_Md_book, if_neg c1, if_neg c2, if_neg c3, if_neg c4]; subst_vars; rfl) | (unfold gj_Md_book; subst_vars; rfl))⟩
        · refine r_bipush (pc := 44) (v := (-4)) d_Md_book_44 rfl ?_
          exact r_iret d_Md_book_46 rfl (by omega) (by omega) ⟨(by first | (rw [ga_Md_book, if_neg c1, if_neg c2, if_neg c3, if_pos c4]; done) | (rw [ga_Md_book, if_neg c1, if_neg c2, if_neg c3, if_pos c4]; subst_vars; rfl) | (unfold ga_Md_book; subst_vars; rfl)), rfl, (by first | (rw [gi_Md_book, if_neg c1, if_neg c2, if_neg c3, if_pos c4]; done) | (rw [gi_Md_book, if_neg c1, if_neg c2, if_neg c3, if_pos c4]; subst_vars; rfl) | (unfold gi_Md_book; subst_vars; rfl)), (by first | (rw [gj_Md_book, if_neg c1, if_neg c2, if_neg c3, if_pos c4]; done) | (rw [gj_Md_book, if_neg c1, if_neg c2, if_neg c3, if_pos c4]; subst_vars; rfl) | (unfold gj_Md_book; subst_vars; rfl))⟩
      · refine r_bipush (pc := 32) (v := (-2)) d_Md_book_32 rfl ?_
        exact r_iret d_Md_book_34 rfl (by omega) (by omega) ⟨(by first | (rw [ga_Md_book, if_neg c1, if_neg c2, if_pos c3]; done) | (rw [ga_Md_book, if_neg c1, if_neg c2, if_pos c3]; subst_vars; rfl) | (unfold ga_Md_book; subst_vars; rfl)), rfl, (by first | (rw [gi_Md_book, if_neg c1, if_neg c2, if_pos c3]; done) | (rw [gi_Md_book, if_neg c1, if_neg c2, if_pos c3]; subst_vars; rfl) | (unfold gi_Md_book; subst_vars; rfl)), (by first | (rw [gj_Md_book, if_neg c1, if_neg c2, if_pos c3]; done) | (rw [gj_Md_book, if_neg c1, if_neg c2, if_pos c3]; subst_vars; rfl) | (unfold gj_Md_book; subst_vars; rfl))⟩
    · refine r_iconst (pc := 20) (v := (-1)) d_Md_book_20 rfl ?_
      exact r_iret d_Md_book_21 rfl (by omega) (by omega) ⟨(by first | (rw [ga_Md_book, if_neg c1, if_pos c2]; done) | (rw [ga_Md_book, if_neg c1, if_pos c2]; subst_vars; rfl) | (unfold ga_Md_book; subst_vars; rfl)), rfl, (by first | (rw [gi_Md_book, if_neg c1, if_pos c2]; done) | (rw [gi_Md_book, if_neg c1, if_pos c2]; subst_vars; rfl) | (unfold gi_Md_book; subst_vars; rfl)), (by first | (rw [gj_Md_book, if_neg c1, if_pos c2]; done) | (rw [gj_Md_book, if_neg c1, if_pos c2]; subst_vars; rfl) | (unfold gj_Md_book; subst_vars; rfl))⟩
  · refine lda_n_3_0 (pc := 5) d_Md_book_5 ?_
    refine r_iconst (pc := 6) (v := 0) d_Md_book_6 rfl ?_
    refine p_Md_336 (pc := 7) rfl d_Md_book_7 (hM.1) ?_
    refine r_nmI (fun I12 hI11 => ?_)
    refine r_iconst (pc := 10) (v := 0) d_Md_book_10 rfl ?_
    exact r_iret d_Md_book_11 rfl (by omega) (by omega) ⟨(by first | (rw [ga_Md_book, if_pos c1]; done) | (rw [ga_Md_book, if_pos c1]; subst_vars; rfl) | (unfold ga_Md_book; subst_vars; rfl)), rfl, (by first | (rw [gi_Md_book, if_pos c1]; done) | (rw [gi_Md_book, if_pos c1]; subst_vars; rfl) | (unfold gi_Md_book; subst_vars; rfl)), (by first | (rw [gj_Md_book, if_pos c1]; done) | (rw [gj_Md_book, if_pos c1]; subst_vars; rfl) | (unfold gj_Md_book; subst_vars; rfl))⟩
theorem mtr_in {x : Int32} {z : Nat} (hz : z < 2 ^ 31) (h1 : 0 ≤ x) (h2 : x ≤ qmin 20 (nI z) - 1) : vp_in x 20 := by
  have hm : ∃ y, y ≤ 20 ∧ qmin 20 (nI z) = nI y := by
    unfold qmin
    split
    · rename_i h
      rcases Nat.lt_or_ge z 20 with q | q
      · exact ⟨z, by omega, rfl⟩
      · exact absurd h (nI_nlt (a := z) (b := 20) q hz)
    · exact ⟨20, by omega, rfl⟩
  obtain ⟨y, hy, ey⟩ := hm
  rw [ey] at h2
  rw [Int32.le_iff_toInt_le] at h1 h2
  have e1 : (0 : Int32).toInt = 0 := rfl
  rw [e1] at h1
  rw [vp_in_iff]
  rcases Nat.eq_zero_or_pos y with rfl | hp
  · have e : (nI 0 - 1 : Int32).toInt = -1 := by decide
    omega
  · rw [qm1 hp, nI_toInt (by omega)] at h2
    omega
def ga_Md_trace (I : qI) (J : qJ)  (x : Int32) : Int32 := (if (qwithin x 0 ((qmin 20 (I 114 37)) - 1)) = 0 then (-1) else (I 138 (x).toNatClampNeg))
def gi_Md_trace (I : qI) (J : qJ)  (x : Int32) : qI := (if (qwithin x 0 ((qmin 20 (I 114 37)) - 1)) = 0 then I else I)
def gj_Md_trace (I : qI) (J : qJ)  (x : Int32) : qJ := (if (qwithin x 0 ((qmin 20 (I 114 37)) - 1)) = 0 then J else J)
theorem c_Md_trace {x : Int32} {z : Nat} (hM : isMd S) (hz : I 114 37 = nI z) (hz9 : z < 2 ^ 31) : qMet E y_Md_trace b_Md_trace 2 (some .int) 1 0 0 [.ref (qb E + 114), .int x] S I J (fun r S' I' J' => r = some (.int (ga_Md_trace I J x)) ∧ S = S' ∧ I' = gi_Md_trace I J x ∧ J' = gj_Md_trace I J x) := by
  refine qMet.of (L := [some (.ref (qb E + 114)), some (.int x)]) (by decide +kernel) (Nat.le_of_ble_eq_true rfl) rfl ?_
  refine ldi_n_2_1 (pc := 0) d_Md_trace_0 ?_
  refine r_iconst (pc := 1) (v := 0) d_Md_trace_1 rfl ?_
  refine r_bipush (pc := 2) (v := 20) d_Md_trace_2 rfl ?_
  refine lda_n_2_0 (pc := 4) d_Md_trace_4 ?_
  refine g_Md_342 (pc := 5) rfl d_Md_trace_5 (hM.1) ?_
  refine r_callS (pc := 8) (As := [.int 20, .int (I 114 37)]) k_Md_247 sw_jM_min rfl (by decide) d_Md_trace_8 (c_min _ _) rfl (Nat.le_of_ble_eq_true rfl) (by omega) (by omega) (by omega) (fun v' S' I' J' hq => ?_)
  obtain ⟨rfl, rfl, rfl, rfl⟩ := hq
  refine r_iconst (pc := 11) (v := 1) d_Md_trace_11 rfl ?_
  refine r_isub (pc := 12) d_Md_trace_12 ?_
  refine r_callS (pc := 13) (As := [.int x, .int 0, .int ((qmin 20 (I 114 37)) - 1)]) k_Md_120 sw_Md_within rfl (by decide) d_Md_trace_13 (c_Md_within _ _ _) rfl (Nat.le_of_ble_eq_true rfl) (by omega) (by omega) (by omega) (fun v' S' I' J' hq => ?_)
  obtain ⟨rfl, rfl, rfl, rfl⟩ := hq
  refine r_if_eq (pc := 16) (tgt := 28) d_Md_trace_16 (by decide) (fun c1 => ?_) (fun c1 => ?_)
  · refine r_iconst (pc := 28) (v := (-1)) d_Md_trace_28 rfl ?_
    exact r_iret d_Md_trace_29 rfl (by omega) (by omega) ⟨(by first | (rw [ga_Md_trace, if_pos c1]; done) | (rw [ga_Md_trace, if_pos c1]; subst_vars; rfl) | (unfold ga_Md_trace; subst_vars; rfl)), rfl, (by first | (rw [gi_Md_trace, if_pos c1]; done) | (rw [gi_Md_trace, if_pos c1]; subst_vars; rfl) | (unfold gi_Md_trace; subst_vars; rfl)), (by first | (rw [gj_Md_trace, if_pos c1]; done) | (rw [gj_Md_trace, if_pos c1]; subst_vars; rfl) | (unfold gj_Md_trace; subst_vars; rfl))⟩
  · have hin : vp_in x 20 := by
      obtain ⟨h1, h2⟩ := qwithin_y c1
      rw [hz] at h2
      exact mtr_in hz9 h1 h2
    refine lda_n_2_0 (pc := 19) d_Md_trace_19 ?_
    refine g_Md_82 (pc := 20) rfl d_Md_trace_20 (hM.1) (hM.r 23 rfl) ?_
    refine ldi_n_2_1 (pc := 23) d_Md_trace_23 ?_
    refine r_iald (pc := 24) d_Md_trace_24 (hM.a 23 rfl) (hin) ?_
    refine r_goto (pc := 25) (tgt := 29) d_Md_trace_25 (by decide) ?_
    exact r_iret d_Md_trace_29 rfl (by omega) (by omega) ⟨(by first | (rw [ga_Md_trace, if_neg c1]; done) | (rw [ga_Md_trace, if_neg c1]; subst_vars; rfl) | (unfold ga_Md_trace; subst_vars; rfl)), rfl, (by first | (rw [gi_Md_trace, if_neg c1]; done) | (rw [gi_Md_trace, if_neg c1]; subst_vars; rfl) | (unfold gi_Md_trace; subst_vars; rfl)), (by first | (rw [gj_Md_trace, if_neg c1]; done) | (rw [gj_Md_trace, if_neg c1]; subst_vars; rfl) | (unfold gj_Md_trace; subst_vars; rfl))⟩
end GP
