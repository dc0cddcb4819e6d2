/-! the object's plain calls: seen, plans, books, counts, the trace, tapes -/
def ca_see (c z : Nat) (p x n : Int32) : Int32 := if p = -1 then 0 else if qwithin p 0 (nI c - 1) = 0 then -1 else if qwithin x 0 999 = 0 then -2 else if qwithin n 0 20 = 0 then -2 else if z < 5 then nI (z + 1) else -4
def ci_see (I : qI) (c z : Nat) (p x n : Int32) : qI := if p = -1 then qup I 9 3 0 else if qwithin p 0 (nI c - 1) = 0 then I else if qwithin x 0 999 = 0 then I else if qwithin n 0 20 = 0 then I else if z < 5 then qadd I 9 z p x n else I
def ca_plan (c z : Nat) (x p : Int32) : Int32 := if x = -1 then 0 else if qwithin x 0 3 = 0 then -1 else if ¬ x = 0 ∧ qwithin p 0 (nI c - 1) = 0 then -1 else if z < 10 then nI (z + 1) else -4
def ci_plan (I : qI) (c z : Nat) (x p : Int32) : qI := if x = -1 then qup I 13 3 0 else if qwithin x 0 3 = 0 then I else if ¬ x = 0 ∧ qwithin p 0 (nI c - 1) = 0 then I else if z < 10 then qadd I 13 z x p 0 else I
def ca_book (c z : Nat) (p x : Int32) : Int32 := if p = -1 then 0 else if qwithin p 0 (nI c - 1) = 0 then -1 else if qwithin x 0 99999 = 0 then -2 else if z < 8 then nI (z + 1) else -4
def ci_book (I : qI) (c z : Nat) (p x : Int32) : qI := if p = -1 then qup I 17 3 0 else if qwithin p 0 (nI c - 1) = 0 then I else if qwithin x 0 99999 = 0 then I else if z < 8 then qadd I 17 z p x 0 else I
def ca_count (I : qI) (x : Int32) : Int32 := if x = 0 then I 6 1 else if x = 1 then I 0 7 else if x = 2 then I 6 3 else if x = 3 then I 9 3 else if x = 4 then I 13 3 else if x = 5 then I 17 3 else if x = 6 then I 87 1 else if x = 7 then I 99 1 else -2
def ca_trace (I : qI) (x : Int32) : Int32 := if qwithin x 0 19 = 0 then -1 else if x < I 99 1 then I 100 x.toNatClampNeg else -1
def ctp (t : Int32) : Nat := 102 + 2 * t.toNatClampNeg
def ca_tape (tp s n : Int32) : Int32 := if qwithin tp 0 5 = 0 then -1 else if s = -1 then 1 else if qwithin s 0 4 = 0 then -2 else if n ≤ 60 then (if 0 ≤ n then 1 else -14) else -2
def ci_tape (I : qI) (tp s n : Int32) : qI := if qwithin tp 0 5 = 0 then I else if s = -1 then qup (qup I (ctp tp) 0 s) (ctp tp) 1 0 else if qwithin s 0 4 = 0 then I else if n ≤ 60 then (if 0 ≤ n then qup (qup I (ctp tp) 0 s) (ctp tp) 1 n else I) else I
def cj_tape (J : qJ) (tp s n : Int32) : qJ := if qwithin tp 0 5 = 0 then J else if s = -1 then qfilJ J (ctp tp + 1) 60 (fun _ => 0) else if qwithin s 0 4 = 0 then J else if n ≤ 60 then (if 0 ≤ n then qfilJ J (ctp tp + 1) 60 (fun _ => 0) else J) else J
def ca_item (I : qI) (tp i : Int32) : Int32 := if qwithin tp 0 5 = 0 then -1 else if I (ctp tp) 0 = -1 then -11 else if qwithin i 0 (I (ctp tp) 1 - 1) = 0 then -13 else 1
def cj_item (I : qI) (J : qJ) (tp i : Int32) (v : Int64) : qJ := if qwithin tp 0 5 = 0 then J else if I (ctp tp) 0 = -1 then J else if qwithin i 0 (I (ctp tp) 1 - 1) = 0 then J else qup J (ctp tp + 1) i.toNatClampNeg (qitem (I (ctp tp) 0) v)
def ca_read (I : qI) (J : qJ) (tp i : Int32) : Int64 := if qwithin tp 0 5 = 0 then -9223372036854775808 else if qwithin i 0 (I (ctp tp) 1 - 1) = 0 then -9223372036854775808 else J (ctp tp + 1) i.toNatClampNeg
def ca_shift (I : qI) (tp i tq j n : Int32) : Int32 := if qwithin tp 0 5 = 0 then -1 else if qwithin tq 0 5 = 0 then -1 else if I (ctp tp) 0 = -1 then -11 else if I (ctp tq) 0 = -1 then -11 else if I (ctp tp) 0 = I (ctp tq) 0 then (if qholds (I (ctp tp) 1) i n = 0 then -13 else if qholds (I (ctp tq) 1) j n = 0 then -13 else n) else -12
def cj_shift (I : qI) (J : qJ) (tp i tq j n : Int32) : qJ := if qwithin tp 0 5 = 0 then J else if qwithin tq 0 5 = 0 then J else if I (ctp tp) 0 = -1 then J else if I (ctp tq) 0 = -1 then J else if I (ctp tp) 0 = I (ctp tq) 0 then (if qholds (I (ctp tp) 1) i n = 0 then J else if qholds (I (ctp tq) 1) j n = 0 then J else qrow J (ctp tq + 1) (va_cpy (J (ctp tp + 1)) (J (ctp tq + 1)) i.toNatClampNeg j.toNatClampNeg n.toNatClampNeg)) else J
theorem hold_y {z : Nat} {i n : Int32} (hz : z < 2 ^ 31) (h : ¬ qholds (nI z) i n = 0) : ∃ a b, i = nI a ∧ n = nI b ∧ a + b ≤ z := by
  unfold qholds at h
  by_cases q : qwithin n 0 (nI z) = 0
  · rw [if_pos q] at h; exact absurd rfl h
  · rw [if_neg q] at h
    obtain ⟨h1, h2⟩ := qwithin_y q
    obtain ⟨b, b1, rfl⟩ := nI_of (Int32.not_lt.mpr h1)
    have hb : b ≤ z := (nI_leI b1 hz).mp h2
    rw [nI_subN hb] at h
    obtain ⟨h3, h4⟩ := qwithin_y h
    obtain ⟨a, a1, rfl⟩ := nI_of (Int32.not_lt.mpr h3)
    have ha : a ≤ z - b := (nI_leI a1 (by omega)).mp h4
    exact ⟨a, b, rfl, rfl, by omega⟩
section H2
variable {E : qE} {S : qSh} {I : qI} {J : qJ} {w0 w1 w2 bl : Nat}
theorem c_On_see {p x n : Int32} {c z : Nat} (hO : isOn S w0 w1 w2 bl) (hc : I 6 1 = nI c) (hc6 : c ≤ 6) (hz : I 9 3 = nI z) (hz5 : z ≤ 5) : qMet E y_On_see b_On_see 4 (some .int) 2 0 0 [.ref (qb E + 0), .int p, .int x, .int n] S I J (fun r S' I' J' => r = some (.int (ca_see c z p x n)) ∧ S = S' ∧ I' = ci_see I c z p x n ∧ J = J') := by
  have hO0 := hO
  obtain ⟨oT, oR0, oR1, oR2, oR3, oR5, oR6, oR8, oR9, oR10, hI1, hN, hA, hM3, hRe, hBl, hRo, hAc, tA, tR, tT⟩ := hO
  have hN0 := hN
  obtain ⟨mT, mA1, mA2, mR0, mR2, mR5, mR6, mR7, mR8, nS, nP, nB, nI0, mRp, mMp⟩ := hN
  have nT := nS.1
  refine qMet.of (L := [some (.ref (qb E + 0)), some (.int p), some (.int x), some (.int n)]) (by decide +kernel) (Nat.le_of_ble_eq_true rfl) rfl ?_
  unfold ca_see ci_see
  refine ldi_n_4_1 (pc := 0) d_On_see_0 ?_
  refine r_iconst (pc := 1) (v := (-1)) d_On_see_1 rfl ?_
  refine r_icmp_ne (pc := 2) (tgt := 18) d_On_see_2 (by decide) (fun c0 => ?_) (fun c0 => ?_)
  · rw [if_neg c0, if_neg c0]
    refine lda_n_4_0 (pc := 18) d_On_see_18 ?_
    refine ldi_n_4_1 (pc := 19) d_On_see_19 ?_
    refine r_callV (pc := 20) (As := [.int p]) (k := 8) (N := 11) (T := T_On) k_On_82 im_On_isMourner se_On_isMourner rfl (by decide) rfl (by decide) d_On_see_20 (by assumption) (c_On_isMourner hO0) rfl (Nat.le_of_ble_eq_true rfl) (by omega) (by omega) (by omega) (fun v S' I' J' hq => ?_)
    obtain ⟨rfl, rfl, rfl, rfl⟩ := hq
    rw [hc]
    refine r_if_ne (pc := 23) (tgt := 28) d_On_see_23 (by decide) (fun c1 => ?_) (fun c1 => ?_)
    · rw [if_neg c1, if_neg c1]
      refine ldi_n_4_2 (pc := 28) d_On_see_28 ?_
      refine r_iconst (pc := 29) (v := 0) d_On_see_29 rfl ?_
      refine r_sipush (pc := 30) (v := 999) d_On_see_30 rfl ?_
      refine r_callS (pc := 33) (As := [.int x, .int 0, .int 999]) k_On_64 sw_On_within rfl (by decide) d_On_see_33 (c_On_within _ _ _) rfl (Nat.le_of_ble_eq_true rfl) (by omega) (by omega) (by omega) (fun v S' I' J' hq => ?_)
      obtain ⟨rfl, rfl, rfl, rfl⟩ := hq
      refine r_if_eq (pc := 36) (tgt := 49) d_On_see_36 (by decide) (fun c2 => ?_) (fun c2 => ?_)
      · rw [if_pos c2, if_pos c2]
        refine r_bipush (pc := 49) (v := (-2)) d_On_see_49 rfl ?_
        exact r_iret d_On_see_51 rfl (by omega) (by omega) (⟨rfl, rfl, rfl, rfl⟩)
      · rw [if_neg c2, if_neg c2]
        refine ldi_n_4_3 (pc := 39) d_On_see_39 ?_
        refine r_iconst (pc := 40) (v := 0) d_On_see_40 rfl ?_
        refine r_bipush (pc := 41) (v := 20) d_On_see_41 rfl ?_
        refine r_callS (pc := 43) (As := [.int n, .int 0, .int 20]) k_On_64 sw_On_within rfl (by decide) d_On_see_43 (c_On_within _ _ _) rfl (Nat.le_of_ble_eq_true rfl) (by omega) (by omega) (by omega) (fun v S' I' J' hq => ?_)
        obtain ⟨rfl, rfl, rfl, rfl⟩ := hq
        refine r_if_ne (pc := 46) (tgt := 52) d_On_see_46 (by decide) (fun c3 => ?_) (fun c3 => ?_)
        · rw [if_neg c3, if_neg c3]
          refine lda_n_4_0 (pc := 52) d_On_see_52 ?_
          refine g_On_23 (pc := 53) rfl d_On_see_53 (by assumption) (by assumption) ?_
          refine g_On_201 (pc := 56) rfl d_On_see_56 (by assumption) (by assumption) ?_
          refine ldi_n_4_1 (pc := 59) d_On_see_59 ?_
          refine ldi_n_4_2 (pc := 60) d_On_see_60 ?_
          refine ldi_n_4_3 (pc := 61) d_On_see_61 ?_
          refine r_callVN (pc := 62) (As := [.int p, .int x, .int n]) (k := 4) (N := 4) (T := T_No) k_On_208 im_No_add se_No_add rfl (by decide) rfl (by decide) d_On_see_62 nT (c_No_add nS hz hz5 (by decide)) rfl (Nat.le_of_ble_eq_true rfl) (by omega) (by omega) (by omega) (fun v S' I' J' hq => ?_)
          obtain ⟨rfl, rfl, rfl, rfl⟩ := hq
          exact r_iret d_On_see_65 rfl (by omega) (by omega) (⟨rfl, rfl, rfl, rfl⟩)
        · rw [if_pos c3, if_pos c3]
          refine r_bipush (pc := 49) (v := (-2)) d_On_see_49 rfl ?_
          exact r_iret d_On_see_51 rfl (by omega) (by omega) (⟨rfl, rfl, rfl, rfl⟩)
    · rw [if_pos c1, if_pos c1]
      refine r_iconst (pc := 26) (v := (-1)) d_On_see_26 rfl ?_
      exact r_iret d_On_see_27 rfl (by omega) (by omega) (⟨rfl, rfl, rfl, rfl⟩)
  · rw [if_pos c0, if_pos c0]
    refine lda_n_4_0 (pc := 5) d_On_see_5 ?_
    refine g_On_23 (pc := 6) rfl d_On_see_6 (by assumption) (by assumption) ?_
    refine g_On_201 (pc := 9) rfl d_On_see_9 (by assumption) (by assumption) ?_
    refine r_iconst (pc := 12) (v := 0) d_On_see_12 rfl ?_
    refine p_On_205 (pc := 13) rfl d_On_see_13 (by assumption) ?_
    refine r_iconst (pc := 16) (v := 0) d_On_see_16 rfl ?_
    exact r_iret d_On_see_17 rfl (by omega) (by omega) (⟨rfl, rfl, rfl, rfl⟩)
theorem c_On_plan {x p : Int32} {c z : Nat} (hO : isOn S w0 w1 w2 bl) (hc : I 6 1 = nI c) (hc6 : c ≤ 6) (hz : I 13 3 = nI z) (hz5 : z ≤ 10) : qMet E y_On_plan b_On_plan 3 (some .int) 2 0 0 [.ref (qb E + 0), .int x, .int p] S I J (fun r S' I' J' => r = some (.int (ca_plan c z x p)) ∧ S = S' ∧ I' = ci_plan I c z x p ∧ J = J') := by
  have hO0 := hO
  obtain ⟨oT, oR0, oR1, oR2, oR3, oR5, oR6, oR8, oR9, oR10, hI1, hN, hA, hM3, hRe, hBl, hRo, hAc, tA, tR, tT⟩ := hO
  have hN0 := hN
  obtain ⟨mT, mA1, mA2, mR0, mR2, mR5, mR6, mR7, mR8, nS, nP, nB, nI0, mRp, mMp⟩ := hN
  have nT := nP.1
  refine qMet.of (L := [some (.ref (qb E + 0)), some (.int x), some (.int p)]) (by decide +kernel) (Nat.le_of_ble_eq_true rfl) rfl ?_
  unfold ca_plan ci_plan
  have add : ∀ (hno : ¬ (¬ x = 0 ∧ qwithin p 0 (nI c - 1) = 0)), qW E y_On_plan b_On_plan (some .int) 2 0 0 (fun r S' I' J' => r = some (.int (if ¬ x = 0 ∧ qwithin p 0 (nI c - 1) = 0 then -1 else if z < 10 then nI (z + 1) else -4)) ∧ S = S' ∧ I' = (if ¬ x = 0 ∧ qwithin p 0 (nI c - 1) = 0 then I else if z < 10 then qadd I 13 z x p 0 else I) ∧ J = J') 0 0 41 [some (.ref (qb E + 0)), some (.int x), some (.int p)] [] S I J := by
    intro hno
    rw [if_neg hno, if_neg hno]
    refine lda_n_3_0 (pc := 41) d_On_plan_41 ?_
    refine g_On_23 (pc := 42) rfl d_On_plan_42 (by assumption) (by assumption) ?_
    refine g_On_232 (pc := 45) rfl d_On_plan_45 (by assumption) (by assumption) ?_
    refine ldi_n_3_1 (pc := 48) d_On_plan_48 ?_
    refine ldi_n_3_2 (pc := 49) d_On_plan_49 ?_
    refine r_iconst (pc := 50) (v := 0) d_On_plan_50 rfl ?_
    refine r_callVN (pc := 51) (As := [.int x, .int p, .int 0]) (k := 4) (N := 4) (T := T_No) k_On_208 im_No_add se_No_add rfl (by decide) rfl (by decide) d_On_plan_51 nT (c_No_add nP hz hz5 (by decide)) rfl (Nat.le_of_ble_eq_true rfl) (by omega) (by omega) (by omega) (fun v S' I' J' hq => ?_)
    obtain ⟨rfl, rfl, rfl, rfl⟩ := hq
    exact r_iret d_On_plan_54 rfl (by omega) (by omega) (⟨rfl, rfl, rfl, rfl⟩)
  refine ldi_n_3_1 (pc := 0) d_On_plan_0 ?_
  refine r_iconst (pc := 1) (v := (-1)) d_On_plan_1 rfl ?_
  refine r_icmp_ne (pc := 2) (tgt := 18) d_On_plan_2 (by decide) (fun c0 => ?_) (fun c0 => ?_)
  · rw [if_neg c0, if_neg c0]
    refine ldi_n_3_1 (pc := 18) d_On_plan_18 ?_
    refine r_iconst (pc := 19) (v := 0) d_On_plan_19 rfl ?_
    refine r_iconst (pc := 20) (v := 3) d_On_plan_20 rfl ?_
    refine r_callS (pc := 21) (As := [.int x, .int 0, .int 3]) k_On_64 sw_On_within rfl (by decide) d_On_plan_21 (c_On_within _ _ _) rfl (Nat.le_of_ble_eq_true rfl) (by omega) (by omega) (by omega) (fun v S' I' J' hq => ?_)
    obtain ⟨rfl, rfl, rfl, rfl⟩ := hq
    refine r_if_eq (pc := 24) (tgt := 39) d_On_plan_24 (by decide) (fun c1 => ?_) (fun c1 => ?_)
    · rw [if_pos c1, if_pos c1]
      refine r_iconst (pc := 39) (v := (-1)) d_On_plan_39 rfl ?_
      exact r_iret d_On_plan_40 rfl (by omega) (by omega) (⟨rfl, rfl, rfl, rfl⟩)
    · rw [if_neg c1, if_neg c1]
      refine ldi_n_3_1 (pc := 27) d_On_plan_27 ?_
      refine r_if_eq (pc := 28) (tgt := 41) d_On_plan_28 (by decide) (fun c2 => ?_) (fun c2 => ?_)
      · exact add (fun q => q.1 c2)
      · refine lda_n_3_0 (pc := 31) d_On_plan_31 ?_
        refine ldi_n_3_2 (pc := 32) d_On_plan_32 ?_
        refine r_callV (pc := 33) (As := [.int p]) (k := 8) (N := 11) (T := T_On) k_On_82 im_On_isMourner se_On_isMourner rfl (by decide) rfl (by decide) d_On_plan_33 (by assumption) (c_On_isMourner hO0) rfl (Nat.le_of_ble_eq_true rfl) (by omega) (by omega) (by omega) (fun v S' I' J' hq => ?_)
        obtain ⟨rfl, rfl, rfl, rfl⟩ := hq
        rw [hc]
        refine r_if_ne (pc := 36) (tgt := 41) d_On_plan_36 (by decide) (fun c3 => ?_) (fun c3 => ?_)
        · exact add (fun q => c3 q.2)
        · have c3' := c3
          rw [if_pos ⟨c2, c3'⟩, if_pos ⟨c2, c3'⟩]
          refine r_iconst (pc := 39) (v := (-1)) d_On_plan_39 rfl ?_
          exact r_iret d_On_plan_40 rfl (by omega) (by omega) (⟨rfl, rfl, rfl, rfl⟩)
  · rw [if_pos c0, if_pos c0]
    refine lda_n_3_0 (pc := 5) d_On_plan_5 ?_
    refine g_On_23 (pc := 6) rfl d_On_plan_6 (by assumption) (by assumption) ?_
    refine g_On_232 (pc := 9) rfl d_On_plan_9 (by assumption) (by assumption) ?_
    refine r_iconst (pc := 12) (v := 0) d_On_plan_12 rfl ?_
    refine p_On_205 (pc := 13) rfl d_On_plan_13 (by assumption) ?_
    refine r_iconst (pc := 16) (v := 0) d_On_plan_16 rfl ?_
    exact r_iret d_On_plan_17 rfl (by omega) (by omega) (⟨rfl, rfl, rfl, rfl⟩)
theorem c_On_book {p x : Int32} {c z : Nat} (hO : isOn S w0 w1 w2 bl) (hc : I 6 1 = nI c) (hc6 : c ≤ 6) (hz : I 17 3 = nI z) (hz5 : z ≤ 8) : qMet E y_On_book b_On_book 3 (some .int) 2 0 0 [.ref (qb E + 0), .int p, .int x] S I J (fun r S' I' J' => r = some (.int (ca_book c z p x)) ∧ S = S' ∧ I' = ci_book I c z p x ∧ J = J') := by
  have hO0 := hO
  obtain ⟨oT, oR0, oR1, oR2, oR3, oR5, oR6, oR8, oR9, oR10, hI1, hN, hA, hM3, hRe, hBl, hRo, hAc, tA, tR, tT⟩ := hO
  have hN0 := hN
  obtain ⟨mT, mA1, mA2, mR0, mR2, mR5, mR6, mR7, mR8, nS, nP, nB, nI0, mRp, mMp⟩ := hN
  have nT := nB.1
  refine qMet.of (L := [some (.ref (qb E + 0)), some (.int p), some (.int x)]) (by decide +kernel) (Nat.le_of_ble_eq_true rfl) rfl ?_
  unfold ca_book ci_book
  refine ldi_n_3_1 (pc := 0) d_On_book_0 ?_
  refine r_iconst (pc := 1) (v := (-1)) d_On_book_1 rfl ?_
  refine r_icmp_ne (pc := 2) (tgt := 18) d_On_book_2 (by decide) (fun c0 => ?_) (fun c0 => ?_)
  · rw [if_neg c0, if_neg c0]
    refine lda_n_3_0 (pc := 18) d_On_book_18 ?_
    refine ldi_n_3_1 (pc := 19) d_On_book_19 ?_
    refine r_callV (pc := 20) (As := [.int p]) (k := 8) (N := 11) (T := T_On) k_On_82 im_On_isMourner se_On_isMourner rfl (by decide) rfl (by decide) d_On_book_20 (by assumption) (c_On_isMourner hO0) rfl (Nat.le_of_ble_eq_true rfl) (by omega) (by omega) (by omega) (fun v S' I' J' hq => ?_)
    obtain ⟨rfl, rfl, rfl, rfl⟩ := hq
    rw [hc]
    refine r_if_ne (pc := 23) (tgt := 28) d_On_book_23 (by decide) (fun c1 => ?_) (fun c1 => ?_)
    · rw [if_neg c1, if_neg c1]
      refine ldi_n_3_2 (pc := 28) d_On_book_28 ?_
      refine r_iconst (pc := 29) (v := 0) d_On_book_29 rfl ?_
      refine r_ldc (pc := 30) ct_On_117 d_On_book_30 ?_
      refine r_callS (pc := 32) (As := [.int x, .int 0, .int 99999]) k_On_64 sw_On_within rfl (by decide) d_On_book_32 (c_On_within _ _ _) rfl (Nat.le_of_ble_eq_true rfl) (by omega) (by omega) (by omega) (fun v S' I' J' hq => ?_)
      obtain ⟨rfl, rfl, rfl, rfl⟩ := hq
      refine r_if_ne (pc := 35) (tgt := 41) d_On_book_35 (by decide) (fun c2 => ?_) (fun c2 => ?_)
      · rw [if_neg c2, if_neg c2]
        refine lda_n_3_0 (pc := 41) d_On_book_41 ?_
        refine g_On_23 (pc := 42) rfl d_On_book_42 (by assumption) (by assumption) ?_
        refine g_On_238 (pc := 45) rfl d_On_book_45 (by assumption) (by assumption) ?_
        refine ldi_n_3_1 (pc := 48) d_On_book_48 ?_
        refine ldi_n_3_2 (pc := 49) d_On_book_49 ?_
        refine r_iconst (pc := 50) (v := 0) d_On_book_50 rfl ?_
        refine r_callVN (pc := 51) (As := [.int p, .int x, .int 0]) (k := 4) (N := 4) (T := T_No) k_On_208 im_No_add se_No_add rfl (by decide) rfl (by decide) d_On_book_51 nT (c_No_add nB hz hz5 (by decide)) rfl (Nat.le_of_ble_eq_true rfl) (by omega) (by omega) (by omega) (fun v S' I' J' hq => ?_)
        obtain ⟨rfl, rfl, rfl, rfl⟩ := hq
        exact r_iret d_On_book_54 rfl (by omega) (by omega) (⟨rfl, rfl, rfl, rfl⟩)
      · rw [if_pos c2, if_pos c2]
        refine r_bipush (pc := 38) (v := (-2)) d_On_book_38 rfl ?_
        exact r_iret d_On_book_40 rfl (by omega) (by omega) (⟨rfl, rfl, rfl, rfl⟩)
    · rw [if_pos c1, if_pos c1]
      refine r_iconst (pc := 26) (v := (-1)) d_On_book_26 rfl ?_
      exact r_iret d_On_book_27 rfl (by omega) (by omega) (⟨rfl, rfl, rfl, rfl⟩)
  · rw [if_pos c0, if_pos c0]
    refine lda_n_3_0 (pc := 5) d_On_book_5 ?_
    refine g_On_23 (pc := 6) rfl d_On_book_6 (by assumption) (by assumption) ?_
    refine g_On_238 (pc := 9) rfl d_On_book_9 (by assumption) (by assumption) ?_
    refine r_iconst (pc := 12) (v := 0) d_On_book_12 rfl ?_
    refine p_On_205 (pc := 13) rfl d_On_book_13 (by assumption) ?_
    refine r_iconst (pc := 16) (v := 0) d_On_book_16 rfl ?_
    exact r_iret d_On_book_17 rfl (by omega) (by omega) (⟨rfl, rfl, rfl, rfl⟩)
theorem c_On_count {x : Int32} (hO : isOn S w0 w1 w2 bl) : qMet E y_On_count b_On_count 2 (some .int) 0 0 0 [.ref (qb E + 0), .int x] S I J (qPi S I J (ca_count I x)) := by
  obtain ⟨oT, oR0, oR1, oR2, oR3, oR5, oR6, oR8, oR9, oR10, hI1, hN, hA, hM3, hRe, hBl, hRo, hAc, tA, tR, tT⟩ := hO
  have hN0 := hN
  obtain ⟨mT, mA1, mA2, mR0, mR2, mR5, mR6, mR7, mR8, nS, nP, nB, nI0, mRp, mMp⟩ := hN
  have nT1 := nS.1
  have nT2 := nP.1
  have nT3 := nB.1
  have nT4 := hRe.1
  have nT5 := hAc.1
  refine qMet.of (L := [some (.ref (qb E + 0)), some (.int x)]) (by decide +kernel) (Nat.le_of_ble_eq_true rfl) rfl ?_
  unfold ca_count
  refine ldi_n_2_1 (pc := 0) d_On_count_0 ?_
  by_cases k0 : x = 0
  · rw [if_pos k0, k0]
    refine r_tableIn (pc := 1) (off := 47) (tgt := 48) d_On_count_1 (by decide) (by decide) (by decide +kernel) (by decide) ?_
    refine lda_n_2_0 (pc := 48) d_On_count_48 ?_
    refine g_On_23 (pc := 49) rfl d_On_count_49 (by assumption) (by assumption) ?_
    refine g_On_68 (pc := 52) rfl d_On_count_52 (by assumption) ?_
    exact r_iret d_On_count_55 rfl (by omega) (by omega) (⟨rfl, rfl, rfl, rfl⟩)
  by_cases k1 : x = 1
  · rw [if_neg k0, if_pos k1, k1]
    refine r_tableIn (pc := 1) (off := 55) (tgt := 56) d_On_count_1 (by decide) (by decide) (by decide +kernel) (by decide) ?_
    refine lda_n_2_0 (pc := 56) d_On_count_56 ?_
    refine g_On_135 (pc := 57) rfl d_On_count_57 (by assumption) ?_
    exact r_iret d_On_count_60 rfl (by omega) (by omega) (⟨rfl, rfl, rfl, rfl⟩)
  by_cases k2 : x = 2
  · rw [if_neg k0, if_neg k1, if_pos k2, k2]
    refine r_tableIn (pc := 1) (off := 60) (tgt := 61) d_On_count_1 (by decide) (by decide) (by decide +kernel) (by decide) ?_
    refine lda_n_2_0 (pc := 61) d_On_count_61 ?_
    refine g_On_23 (pc := 62) rfl d_On_count_62 (by assumption) (by assumption) ?_
    refine g_On_118 (pc := 65) rfl d_On_count_65 (by assumption) ?_
    exact r_iret d_On_count_68 rfl (by omega) (by omega) (⟨rfl, rfl, rfl, rfl⟩)
  by_cases k3 : x = 3
  · rw [if_neg k0, if_neg k1, if_neg k2, if_pos k3, k3]
    refine r_tableIn (pc := 1) (off := 68) (tgt := 69) d_On_count_1 (by decide) (by decide) (by decide +kernel) (by decide) ?_
    refine lda_n_2_0 (pc := 69) d_On_count_69 ?_
    refine g_On_23 (pc := 70) rfl d_On_count_70 (by assumption) (by assumption) ?_
    refine g_On_201 (pc := 73) rfl d_On_count_73 (by assumption) (by assumption) ?_
    refine g_On_205 (pc := 76) rfl d_On_count_76 (by assumption) ?_
    exact r_iret d_On_count_79 rfl (by omega) (by omega) (⟨rfl, rfl, rfl, rfl⟩)
  by_cases k4 : x = 4
  · rw [if_neg k0, if_neg k1, if_neg k2, if_neg k3, if_pos k4, k4]
    refine r_tableIn (pc := 1) (off := 79) (tgt := 80) d_On_count_1 (by decide) (by decide) (by decide +kernel) (by decide) ?_
    refine lda_n_2_0 (pc := 80) d_On_count_80 ?_
    refine g_On_23 (pc := 81) rfl d_On_count_81 (by assumption) (by assumption) ?_
    refine g_On_232 (pc := 84) rfl d_On_count_84 (by assumption) (by assumption) ?_
    refine g_On_205 (pc := 87) rfl d_On_count_87 (by assumption) ?_
    exact r_iret d_On_count_90 rfl (by omega) (by omega) (⟨rfl, rfl, rfl, rfl⟩)
  by_cases k5 : x = 5
  · rw [if_neg k0, if_neg k1, if_neg k2, if_neg k3, if_neg k4, if_pos k5, k5]
    refine r_tableIn (pc := 1) (off := 90) (tgt := 91) d_On_count_1 (by decide) (by decide) (by decide +kernel) (by decide) ?_
    refine lda_n_2_0 (pc := 91) d_On_count_91 ?_
    refine g_On_23 (pc := 92) rfl d_On_count_92 (by assumption) (by assumption) ?_
    refine g_On_238 (pc := 95) rfl d_On_count_95 (by assumption) (by assumption) ?_
    refine g_On_205 (pc := 98) rfl d_On_count_98 (by assumption) ?_
    exact r_iret d_On_count_101 rfl (by omega) (by omega) (⟨rfl, rfl, rfl, rfl⟩)
  by_cases k6 : x = 6
  · rw [if_neg k0, if_neg k1, if_neg k2, if_neg k3, if_neg k4, if_neg k5, if_pos k6, k6]
    refine r_tableIn (pc := 1) (off := 101) (tgt := 102) d_On_count_1 (by decide) (by decide) (by decide +kernel) (by decide) ?_
    refine lda_n_2_0 (pc := 102) d_On_count_102 ?_
    refine g_On_36 (pc := 103) rfl d_On_count_103 (by assumption) (by assumption) ?_
    refine g_On_128 (pc := 106) rfl d_On_count_106 (by assumption) ?_
    exact r_iret d_On_count_109 rfl (by omega) (by omega) (⟨rfl, rfl, rfl, rfl⟩)
  by_cases k7 : x = 7
  · rw [if_neg k0, if_neg k1, if_neg k2, if_neg k3, if_neg k4, if_neg k5, if_neg k6, if_pos k7, k7]
    refine r_tableIn (pc := 1) (off := 109) (tgt := 110) d_On_count_1 (by decide) (by decide) (by decide +kernel) (by decide) ?_
    refine lda_n_2_0 (pc := 110) d_On_count_110 ?_
    refine g_On_53 (pc := 111) rfl d_On_count_111 (by assumption) (by assumption) ?_
    refine g_On_261 (pc := 114) rfl d_On_count_114 (by assumption) ?_
    exact r_iret d_On_count_117 rfl (by omega) (by omega) (⟨rfl, rfl, rfl, rfl⟩)
  rw [if_neg k0, if_neg k1, if_neg k2, if_neg k3, if_neg k4, if_neg k5, if_neg k6, if_neg k7]
  refine r_tableOut (pc := 1) (tgt := 118) d_On_count_1 (by simp only [← Int32.toInt_inj, Int32.reduceToInt] at k0 k1 k2 k3 k4 k5 k6 k7; omega) (by decide) ?_
  refine r_bipush (pc := 118) (v := (-2)) d_On_count_118 rfl ?_
  exact r_iret d_On_count_120 rfl (by omega) (by omega) (⟨rfl, rfl, rfl, rfl⟩)
theorem c_On_trace {x : Int32} (hO : isOn S w0 w1 w2 bl) : qMet E y_On_trace b_On_trace 2 (some .int) 1 0 0 [.ref (qb E + 0), .int x] S I J (qPi S I J (ca_trace I x)) := by
  obtain ⟨oT, oR0, oR1, oR2, oR3, oR5, oR6, oR8, oR9, oR10, hI1, hN, hA, hM3, hRe, hBl, hRo, hAc, tA, tR, tT⟩ := hO
  obtain ⟨aT, aA, aR⟩ := hAc
  refine qMet.of (L := [some (.ref (qb E + 0)), some (.int x)]) (by decide +kernel) (Nat.le_of_ble_eq_true rfl) rfl ?_
  unfold ca_trace
  refine ldi_n_2_1 (pc := 0) d_On_trace_0 ?_
  refine r_iconst (pc := 1) (v := 0) d_On_trace_1 rfl ?_
  refine r_bipush (pc := 2) (v := 19) d_On_trace_2 rfl ?_
  refine r_callS (pc := 4) (As := [.int x, .int 0, .int 19]) k_On_64 sw_On_within rfl (by decide) d_On_trace_4 (c_On_within _ _ _) rfl (Nat.le_of_ble_eq_true rfl) (by omega) (by omega) (by omega) (fun v S' I' J' hq => ?_)
  obtain ⟨rfl, rfl, rfl, rfl⟩ := hq
  refine r_if_eq (pc := 7) (tgt := 33) d_On_trace_7 (by decide) (fun c1 => ?_) (fun c1 => ?_)
  · rw [if_pos c1]
    refine r_iconst (pc := 33) (v := (-1)) d_On_trace_33 rfl ?_
    exact r_iret d_On_trace_34 rfl (by omega) (by omega) (⟨rfl, rfl, rfl, rfl⟩)
  · rw [if_neg c1]
    refine ldi_n_2_1 (pc := 10) d_On_trace_10 ?_
    refine lda_n_2_0 (pc := 11) d_On_trace_11 ?_
    refine g_On_53 (pc := 12) rfl d_On_trace_12 (by assumption) (by assumption) ?_
    refine g_On_261 (pc := 15) rfl d_On_trace_15 (by assumption) ?_
    refine r_icmp_ge (pc := 18) (tgt := 33) d_On_trace_18 (by decide) (fun c2 => ?_) (fun c2 => ?_)
    · rw [if_neg (Int32.not_lt.mpr c2)]
      refine r_iconst (pc := 33) (v := (-1)) d_On_trace_33 rfl ?_
      exact r_iret d_On_trace_34 rfl (by omega) (by omega) (⟨rfl, rfl, rfl, rfl⟩)
    · have hin : vp_in x 20 := by
        obtain ⟨h1, h2⟩ := qwithin_y c1
        obtain ⟨k, k1, k2⟩ := nI_of2 (M := 19) (n := 19) rfl (Int32.not_lt.mpr h1) h2
        rw [k2]; exact vp_in_nI (by omega) (by omega)
      rw [if_pos (Int32.not_le.mp c2)]
      refine lda_n_2_0 (pc := 21) d_On_trace_21 ?_
      refine g_On_53 (pc := 22) rfl d_On_trace_22 (by assumption) (by assumption) ?_
      refine g_On_268 (pc := 25) rfl d_On_trace_25 (by assumption) (by assumption) ?_
      refine ldi_n_2_1 (pc := 28) d_On_trace_28 ?_
      refine r_iald (pc := 29) d_On_trace_29 (by assumption) (by first | assumption | exact vp_in_nI (by omega) (by omega) | (unfold vp_in; decide)) ?_
      refine r_goto (pc := 30) (tgt := 34) d_On_trace_30 (by decide) ?_
      exact r_iret d_On_trace_34 rfl (by omega) (by omega) (⟨rfl, rfl, rfl, rfl⟩)
theorem c_On_tape {tp s n : Int32} (hO : isOn S w0 w1 w2 bl) : qMet E y_On_tape b_On_tape 4 (some .int) 2 0 0 [.ref (qb E + 0), .int tp, .int s, .int n] S I J (fun r S' I' J' => r = some (.int (ca_tape tp s n)) ∧ S = S' ∧ I' = ci_tape I tp s n ∧ J' = cj_tape J tp s n) := by
  obtain ⟨oT, oR0, oR1, oR2, oR3, oR5, oR6, oR8, oR9, oR10, hI1, hN, hA, hM3, hRe, hBl, hRo, hAc, tA, tR, tT⟩ := hO
  refine qMet.of (L := [some (.ref (qb E + 0)), some (.int tp), some (.int s), some (.int n)]) (by decide +kernel) (Nat.le_of_ble_eq_true rfl) rfl ?_
  unfold ca_tape ci_tape cj_tape
  refine ldi_n_4_1 (pc := 0) d_On_tape_0 ?_
  refine r_callS (pc := 1) (As := [.int tp]) k_On_247 sw_On_isTape rfl (by decide) d_On_tape_1 (c_On_isTape tp) rfl (Nat.le_of_ble_eq_true rfl) (by omega) (by omega) (by omega) (fun v S' I' J' hq => ?_)
  obtain ⟨rfl, rfl, rfl, rfl⟩ := hq
  refine r_if_ne (pc := 4) (tgt := 9) d_On_tape_4 (by decide) (fun c1 => ?_) (fun c1 => ?_)
  · rw [if_neg c1, if_neg c1, if_neg c1]
    obtain ⟨t, ht, rfl⟩ := qtape_y c1
    have hRt : qR S 101 (nI t).toNatClampNeg = some (102 + 2 * t) := by rw [qcl (by omega)]; exact tR t ht
    have hTt := tT t ht
    have hT0 := hTt.1
    have hin : vp_in (nI t) 6 := vp_in_nI ht (by omega)
    have ec : ctp (nI t) = 102 + 2 * t := by unfold ctp; rw [qcl (by omega)]
    rw [ec]
    refine ldi_n_4_2 (pc := 9) d_On_tape_9 ?_
    refine r_iconst (pc := 10) (v := (-1)) d_On_tape_10 rfl ?_
    refine r_icmp_ne (pc := 11) (tgt := 27) d_On_tape_11 (by decide) (fun c2 => ?_) (fun c2 => ?_)
    · rw [if_neg c2, if_neg c2, if_neg c2]
      refine ldi_n_4_2 (pc := 27) d_On_tape_27 ?_
      refine r_iconst (pc := 28) (v := 0) d_On_tape_28 rfl ?_
      refine r_iconst (pc := 29) (v := 4) d_On_tape_29 rfl ?_
      refine r_callS (pc := 30) (As := [.int s, .int 0, .int 4]) k_On_64 sw_On_within rfl (by decide) d_On_tape_30 (c_On_within s 0 4) rfl (Nat.le_of_ble_eq_true rfl) (by omega) (by omega) (by omega) (fun v S' I' J' hq => ?_)
      obtain ⟨rfl, rfl, rfl, rfl⟩ := hq
      refine r_if_eq (pc := 33) (tgt := 42) d_On_tape_33 (by decide) (fun c3 => ?_) (fun c3 => ?_)
      · rw [if_pos c3, if_pos c3, if_pos c3]
        refine r_bipush (pc := 42) (v := (-2)) d_On_tape_42 rfl ?_
        exact r_iret d_On_tape_44 rfl (by omega) (by omega) (⟨rfl, rfl, rfl, rfl⟩)
      · rw [if_neg c3, if_neg c3, if_neg c3]
        refine ldi_n_4_3 (pc := 36) d_On_tape_36 ?_
        refine r_bipush (pc := 37) (v := 60) d_On_tape_37 rfl ?_
        refine r_icmp_le (pc := 39) (tgt := 45) d_On_tape_39 (by decide) (fun c4 => ?_) (fun c4 => ?_)
        · rw [if_pos c4, if_pos c4, if_pos c4]
          refine ldi_n_4_3 (pc := 45) d_On_tape_45 ?_
          refine r_if_ge (pc := 46) (tgt := 52) d_On_tape_46 (by decide) (fun c5 => ?_) (fun c5 => ?_)
          · rw [if_pos c5, if_pos c5, if_pos c5]
            refine lda_n_4_0 (pc := 52) d_On_tape_52 ?_
            refine g_On_59 (pc := 53) rfl d_On_tape_53 (by assumption) (by assumption) ?_
            refine ldi_n_4_1 (pc := 56) d_On_tape_56 ?_
            refine r_aald15 (pc := 57) d_On_tape_57 (by assumption) (by first | assumption | exact vp_in_nI (by omega) (by omega) | (unfold vp_in; decide)) (by assumption) ?_
            refine ldi_n_4_2 (pc := 58) d_On_tape_58 ?_
            refine ldi_n_4_3 (pc := 59) d_On_tape_59 ?_
            refine r_callVN (pc := 60) (As := [.int s, .int n]) (k := 7) (N := 3) (T := T_Ta) k_On_277 im_Ta_becomes se_Ta_becomes rfl (by decide) rfl (by decide) d_On_tape_60 hT0 (c_Ta_becomes hTt) rfl (Nat.le_of_ble_eq_true rfl) (by omega) (by omega) (by omega) (fun r S' I' J' hq => ?_)
            obtain ⟨rfl, rfl, rfl, rfl⟩ := hq
            refine r_iconst (pc := 63) (v := 1) d_On_tape_63 rfl ?_
            exact r_iret d_On_tape_64 rfl (by omega) (by omega) (⟨rfl, rfl, rfl, rfl⟩)
          · rw [if_neg c5, if_neg c5, if_neg c5]
            refine r_bipush (pc := 49) (v := (-14)) d_On_tape_49 rfl ?_
            exact r_iret d_On_tape_51 rfl (by omega) (by omega) (⟨rfl, rfl, rfl, rfl⟩)
        · rw [if_neg c4, if_neg c4, if_neg c4]
          refine r_bipush (pc := 42) (v := (-2)) d_On_tape_42 rfl ?_
          exact r_iret d_On_tape_44 rfl (by omega) (by omega) (⟨rfl, rfl, rfl, rfl⟩)
    · have c2' : s = -1 := c2
      rw [if_pos c2', if_pos c2', if_pos c2']
      refine lda_n_4_0 (pc := 14) d_On_tape_14 ?_
      refine g_On_59 (pc := 15) rfl d_On_tape_15 (by assumption) (by assumption) ?_
      refine ldi_n_4_1 (pc := 18) d_On_tape_18 ?_
      refine r_aald15 (pc := 19) d_On_tape_19 (by assumption) (by first | assumption | exact vp_in_nI (by omega) (by omega) | (unfold vp_in; decide)) (by assumption) ?_
      refine ldi_n_4_2 (pc := 20) d_On_tape_20 ?_
      refine r_iconst (pc := 21) (v := 0) d_On_tape_21 rfl ?_
      refine r_callVN (pc := 22) (As := [.int s, .int 0]) (k := 7) (N := 3) (T := T_Ta) k_On_277 im_Ta_becomes se_Ta_becomes rfl (by decide) rfl (by decide) d_On_tape_22 hT0 (c_Ta_becomes hTt) rfl (Nat.le_of_ble_eq_true rfl) (by omega) (by omega) (by omega) (fun r S' I' J' hq => ?_)
      obtain ⟨rfl, rfl, rfl, rfl⟩ := hq
      refine r_iconst (pc := 25) (v := 1) d_On_tape_25 rfl ?_
      exact r_iret d_On_tape_26 rfl (by omega) (by omega) (⟨rfl, rfl, rfl, rfl⟩)
  · have c1' := c1
    rw [if_pos c1', if_pos c1', if_pos c1']
    refine r_iconst (pc := 7) (v := (-1)) d_On_tape_7 rfl ?_
    exact r_iret d_On_tape_8 rfl (by omega) (by omega) (⟨rfl, rfl, rfl, rfl⟩)
end H2
