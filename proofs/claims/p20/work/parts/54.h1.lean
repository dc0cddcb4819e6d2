/-! the object's plain calls, told exactly -/
def cmost (x : Int32) : Int32 := if x = 0 then 99 else if x = 1 then 99 else 99999
def cfld (x : Int32) : Nat := if x = 0 then 3 else if x = 1 then 4 else 5
def ca_set (I : qI) (c : Nat) (p x n : Int32) : Int32 := if qwithin p 0 (nI c - 1) = 0 then -1 else if qwithin x 0 2 = 0 then -1 else if qwithin n 0 (cmost x) = 0 then -2 else I (qm 6 p.toNatClampNeg) (cfld x)
def ci_set (I : qI) (c : Nat) (p x n : Int32) : qI := if qwithin p 0 (nI c - 1) = 0 then I else if qwithin x 0 2 = 0 then I else if qwithin n 0 (cmost x) = 0 then I else qup I (qm 6 p.toNatClampNeg) (cfld x) n
def ca_done (I : qI) (c : Nat) (p : Int32) : Int32 := if qwithin p 0 (nI c - 1) = 0 then -1 else if I (qm 6 p.toNatClampNeg) 6 = 0 then 0 else 1
def ci_done (I : qI) (c : Nat) (p b : Int32) : qI := if qwithin p 0 (nI c - 1) = 0 then I else qup I (qm 6 p.toNatClampNeg) 6 b
def ca_list (I : qI) (c l : Nat) (p : Int32) : Int32 := if p = -1 then 0 else if qwithin p 0 (nI c - 1) = 0 then -1 else if 0 ≤ qplace (I 8) p l l then -3 else if l < 6 then nI (l + 1) else -3
def ci_list (I : qI) (c l : Nat) (p : Int32) : qI := if p = -1 then qup I 6 3 0 else if qwithin p 0 (nI c - 1) = 0 then I else if 0 ≤ qplace (I 8) p l l then I else if l < 6 then qup (qup I 8 l p) 6 3 (nI (l + 1)) else I
def ca_swap (I : qI) (c l : Nat) (p q : Int32) : Int32 := if qwithin p 0 (nI c - 1) = 0 then -1 else if qwithin q 0 (nI c - 1) = 0 then -1 else if p = q then -2 else if qplace (I 8) p l l < 0 then -3 else if qplace (I 8) q l l < 0 then -3 else qplace (I 8) q l l
def ci_swap (I : qI) (c l : Nat) (p q : Int32) : qI := if qwithin p 0 (nI c - 1) = 0 then I else if qwithin q 0 (nI c - 1) = 0 then I else if p = q then I else if qplace (I 8) p l l < 0 then I else if qplace (I 8) q l l < 0 then I else qup (qup I 8 (qplace (I 8) p l l).toNatClampNeg q) 8 (qplace (I 8) q l l).toNatClampNeg p
def ca_row (I : qI) (c : Nat) (p r n : Int32) : Int32 := if qwithin p 0 (nI c - 1) = 0 then -1 else if qwithin r 0 3 = 0 then -1 else if qwithin n 0 9 = 0 then -2 else if I (qm 6 p.toNatClampNeg) 1 = 6 then I (qm 6 p.toNatClampNeg + 1) r.toNatClampNeg else -3
def ci_row (I : qI) (c : Nat) (p r n : Int32) : qI := if qwithin p 0 (nI c - 1) = 0 then I else if qwithin r 0 3 = 0 then I else if qwithin n 0 9 = 0 then I else if I (qm 6 p.toNatClampNeg) 1 = 6 then qup I (qm 6 p.toNatClampNeg + 1) r.toNatClampNeg n else I
def ca_feed (z : Nat) (x : Int32) : Int32 := if qwithin x 0 127 = 0 then -2 else if z < 100 then nI (z + 1) else -4
def ci_feed (I : qI) (z : Nat) (x : Int32) : qI := if qwithin x 0 127 = 0 then I else if z < 100 then qup (qup I 88 z x) 87 1 (nI (z + 1)) else I
theorem vnb_ok : ∀ k, k < 128 → vp_nar .byte (nI k) = nI k := by decide +kernel
theorem qw127 {x : Int32} (h : ¬ qwithin x 0 127 = 0) : ∃ k, k < 128 ∧ x = nI k := by
  obtain ⟨h1, h2⟩ := qwithin_y h
  obtain ⟨k, k1, k2⟩ := nI_of2 (M := 127) (n := 127) rfl (Int32.not_lt.mpr h1) h2
  exact ⟨k, by omega, k2⟩
theorem qplace_neg {f : Nat → Int32} {x : Int32} {n : Nat} (hn : n < 2 ^ 31) (h : ¬ qplace f x n n < 0) : ∃ k, k < n ∧ qplace f x n n = nI k ∧ f k = x := by
  have key : ∀ j, j ≤ n → qplace f x n j = -5 ∨ ∃ k, k < n ∧ qplace f x n j = nI k ∧ f k = x := by
    intro j
    induction j with
    | zero => intro _; exact Or.inl rfl
    | succ j ih =>
      intro hj
      rw [qplace]
      split
      · rename_i e
        exact Or.inr ⟨n - (j + 1), by omega, rfl, e⟩
      · exact ih (by omega)
  rcases key n (Nat.le_refl n) with e | e
  · rw [e] at h; exact absurd (by decide) h
  · exact e
section H1
variable {E : qE} {S : qSh} {I : qI} {J : qJ} {w0 w1 w2 bl : Nat}
theorem c_On_set {p x n : Int32} {c : Nat} (hO : isOn S w0 w1 w2 bl) (hc : I 6 1 = nI c) (hc6 : c ≤ 6) : qMet E y_On_set b_On_set 7 (some .int) 2 0 0 [.ref (qb E + 0), .int p, .int x, .int n] S I J (fun r S' I' J' => r = some (.int (ca_set I c p x n)) ∧ S = S' ∧ I' = ci_set I c p x n ∧ J = J') := by
  have hO0 := hO
  obtain ⟨oT, oR0, oR1, oR2, oR3, oR5, oR6, oR8, oR9, oR10, hI1, hN, hA, hM3, hRe, hBl, hRo, hAc, tA, tR, tT⟩ := hO
  have hN0 := hN
  obtain ⟨mT, mA1, mA2, mR0, mR2, mR5, mR6, mR7, mR8, nS, nP, nB, nI0, mRp, mMp⟩ := hN
  refine qMet.of (L := [some (.ref (qb E + 0)), some (.int p), some (.int x), some (.int n), none, none, none]) (by decide +kernel) (Nat.le_of_ble_eq_true rfl) rfl ?_
  refine lda_n_7_0 (pc := 0) d_On_set_0 ?_
  refine ldi_n_7_1 (pc := 1) d_On_set_1 ?_
  refine r_callV (pc := 2) (As := [.int p]) (k := 8) (N := 11) (T := T_On) k_On_82 im_On_isMourner se_On_isMourner rfl (by decide) rfl (by decide) d_On_set_2 (by assumption) (c_On_isMourner hO0) rfl (Nat.le_of_ble_eq_true rfl) (by omega) (by omega) (by omega) (fun v S' I' J' hq => ?_)
  obtain ⟨rfl, rfl, rfl, rfl⟩ := hq
  rw [hc]
  unfold ca_set ci_set
  refine r_if_eq (pc := 5) (tgt := 17) d_On_set_5 (by decide) (fun c1 => ?_) (fun c1 => ?_)
  · rw [if_pos c1, if_pos c1]
    refine r_iconst (pc := 17) (v := (-1)) d_On_set_17 rfl ?_
    exact r_iret d_On_set_18 rfl (by omega) (by omega) (⟨rfl, rfl, rfl, rfl⟩)
  · rw [if_neg c1, if_neg c1]
    refine ldi_n_7_2 (pc := 8) d_On_set_8 ?_
    refine r_iconst (pc := 9) (v := 0) d_On_set_9 rfl ?_
    refine r_iconst (pc := 10) (v := 2) d_On_set_10 rfl ?_
    refine r_callS (pc := 11) (As := [.int x, .int 0, .int 2]) k_On_64 sw_On_within rfl (by decide) d_On_set_11 (c_On_within _ _ _) rfl (Nat.le_of_ble_eq_true rfl) (by omega) (by omega) (by omega) (fun v S' I' J' hq => ?_)
    obtain ⟨rfl, rfl, rfl, rfl⟩ := hq
    refine r_if_ne (pc := 14) (tgt := 19) d_On_set_14 (by decide) (fun c2 => ?_) (fun c2 => ?_)
    · rw [if_neg c2, if_neg c2]
      obtain ⟨q, hq, rfl⟩ := qisM_y (by omega) c1
      have hin : vp_in (nI q) 6 := vp_in_nI (by omega) (by omega)
      have hRc : qR S (6 + 1) (nI q).toNatClampNeg = some (qm 6 q) := by rw [qcl (by omega)]; exact mRp q (by omega)
      have hMT : qT S (qm 6 q) 2 := (mMp q (by omega)).1
      have eq : (nI q).toNatClampNeg = q := qcl (by omega)
      have k40 : ∀ m, cmost x = m → qW E y_On_set b_On_set (some .int) 2 0 0 (fun r S' I' J' => r = some (.int (if qwithin n 0 (cmost x) = 0 then -2 else I (qm 6 (nI q).toNatClampNeg) (cfld x))) ∧ S = S' ∧ I' = (if qwithin n 0 (cmost x) = 0 then I else qup I (qm 6 (nI q).toNatClampNeg) (cfld x) n) ∧ J = J') 0 0 40 [some (.ref (qb E + 0)), some (.int (nI q)), some (.int x), some (.int n), none, none, none] [.int m] S I J := by
        intro m em
        rw [em, eq]
        refine sti_7_4 (pc := 40) d_On_set_40 rfl ?_
        refine ldi_n_7_3 (pc := 42) d_On_set_42 ?_
        refine r_iconst (pc := 43) (v := 0) d_On_set_43 rfl ?_
        refine ldi_7_4 (pc := 44) d_On_set_44 ?_
        refine r_callS (pc := 46) (As := [.int n, .int 0, .int m]) k_On_64 sw_On_within rfl (by decide) d_On_set_46 (c_On_within _ _ _) rfl (Nat.le_of_ble_eq_true rfl) (by omega) (by omega) (by omega) (fun v S' I' J' hq => ?_)
        obtain ⟨rfl, rfl, rfl, rfl⟩ := hq
        refine r_if_ne (pc := 49) (tgt := 55) d_On_set_49 (by decide) (fun c5 => ?_) (fun c5 => ?_)
        · rw [if_neg c5, if_neg c5]
          refine lda_n_7_0 (pc := 55) d_On_set_55 ?_
          refine g_On_23 (pc := 56) rfl d_On_set_56 (by assumption) (by assumption) ?_
          refine g_On_72 (pc := 59) rfl d_On_set_59 (by assumption) (by assumption) ?_
          refine ldi_n_7_1 (pc := 62) d_On_set_62 ?_
          refine r_aald14 (pc := 63) d_On_set_63 (by assumption) (by first | assumption | exact vp_in_nI (by omega) (by omega) | (unfold vp_in; decide)) (by assumption) ?_
          refine sta_7_5 (pc := 64) d_On_set_64 rfl ?_
          refine ldi_n_7_2 (pc := 66) d_On_set_66 ?_
          refine r_if_ne (pc := 67) (tgt := 86) d_On_set_67 (by decide) (fun c6 => ?_) (fun c6 => ?_)
          · refine ldi_n_7_2 (pc := 86) d_On_set_86 ?_
            refine r_iconst (pc := 87) (v := 1) d_On_set_87 rfl ?_
            refine r_icmp_ne (pc := 88) (tgt := 107) d_On_set_88 (by decide) (fun c7 => ?_) (fun c7 => ?_)
            · rw [show cfld x = 5 by unfold cfld; rw [if_neg c6, if_neg c7]]
              refine lda_7_5 (pc := 107) d_On_set_107 ?_
              refine g_On_98 (pc := 109) rfl d_On_set_109 (by assumption) ?_
              refine sti_7_6 (pc := 112) d_On_set_112 rfl ?_
              refine lda_7_5 (pc := 114) d_On_set_114 ?_
              refine ldi_n_7_3 (pc := 116) d_On_set_116 ?_
              refine p_On_98 (pc := 117) rfl d_On_set_117 (by assumption) ?_
              refine ldi_7_6 (pc := 120) d_On_set_120 ?_
              exact r_iret d_On_set_122 rfl (by omega) (by omega) (⟨rfl, rfl, rfl, rfl⟩)
            · rw [show cfld x = 4 by unfold cfld; rw [if_neg c6, if_pos c7]]
              refine lda_7_5 (pc := 91) d_On_set_91 ?_
              refine g_On_95 (pc := 93) rfl d_On_set_93 (by assumption) ?_
              refine sti_7_6 (pc := 96) d_On_set_96 rfl ?_
              refine lda_7_5 (pc := 98) d_On_set_98 ?_
              refine ldi_n_7_3 (pc := 100) d_On_set_100 ?_
              refine p_On_95 (pc := 101) rfl d_On_set_101 (by assumption) ?_
              refine r_goto (pc := 104) (tgt := 120) d_On_set_104 (by decide) ?_
              refine ldi_7_6 (pc := 120) d_On_set_120 ?_
              exact r_iret d_On_set_122 rfl (by omega) (by omega) (⟨rfl, rfl, rfl, rfl⟩)
          · rw [show cfld x = 3 by unfold cfld; rw [if_pos c6]]
            refine lda_7_5 (pc := 70) d_On_set_70 ?_
            refine g_On_92 (pc := 72) rfl d_On_set_72 (by assumption) ?_
            refine sti_7_6 (pc := 75) d_On_set_75 rfl ?_
            refine lda_7_5 (pc := 77) d_On_set_77 ?_
            refine ldi_n_7_3 (pc := 79) d_On_set_79 ?_
            refine p_On_92 (pc := 80) rfl d_On_set_80 (by assumption) ?_
            refine r_goto (pc := 83) (tgt := 120) d_On_set_83 (by decide) ?_
            refine ldi_7_6 (pc := 120) d_On_set_120 ?_
            exact r_iret d_On_set_122 rfl (by omega) (by omega) (⟨rfl, rfl, rfl, rfl⟩)
        · rw [if_pos c5, if_pos c5]
          refine r_bipush (pc := 52) (v := (-2)) d_On_set_52 rfl ?_
          exact r_iret d_On_set_54 rfl (by omega) (by omega) (⟨rfl, rfl, rfl, rfl⟩)
      refine ldi_n_7_2 (pc := 19) d_On_set_19 ?_
      refine r_if_ne (pc := 20) (tgt := 28) d_On_set_20 (by decide) (fun c3 => ?_) (fun c3 => ?_)
      · refine ldi_n_7_2 (pc := 28) d_On_set_28 ?_
        refine r_iconst (pc := 29) (v := 1) d_On_set_29 rfl ?_
        refine r_icmp_ne (pc := 30) (tgt := 38) d_On_set_30 (by decide) (fun c4 => ?_) (fun c4 => ?_)
        · refine r_ldc (pc := 38) ct_On_117 d_On_set_38 ?_
          exact k40 _ (by unfold cmost; rw [if_neg c3, if_neg c4])
        · refine r_bipush (pc := 33) (v := 99) d_On_set_33 rfl ?_
          refine r_goto (pc := 35) (tgt := 40) d_On_set_35 (by decide) ?_
          exact k40 _ (by unfold cmost; rw [if_neg c3, if_pos c4])
      · refine r_bipush (pc := 23) (v := 99) d_On_set_23 rfl ?_
        refine r_goto (pc := 25) (tgt := 40) d_On_set_25 (by decide) ?_
        exact k40 _ (by unfold cmost; rw [if_pos c3])
    · rw [if_pos c2, if_pos c2]
      refine r_iconst (pc := 17) (v := (-1)) d_On_set_17 rfl ?_
      exact r_iret d_On_set_18 rfl (by omega) (by omega) (⟨rfl, rfl, rfl, rfl⟩)
theorem c_On_done {p b : Int32} {c : Nat} (hO : isOn S w0 w1 w2 bl) (hc : I 6 1 = nI c) (hc6 : c ≤ 6) (hb : qbool b) : qMet E y_On_done b_On_done 4 (some .int) 2 0 0 [.ref (qb E + 0), .int p, .int b] S I J (fun r S' I' J' => r = some (.int (ca_done I c p)) ∧ S = S' ∧ I' = ci_done I c p b ∧ J = J') := by
  have hO0 := hO
  obtain ⟨oT, oR0, oR1, oR2, oR3, oR5, oR6, oR8, oR9, oR10, hI1, hN, hA, hM3, hRe, hBl, hRo, hAc, tA, tR, tT⟩ := hO
  have hN0 := hN
  obtain ⟨mT, mA1, mA2, mR0, mR2, mR5, mR6, mR7, mR8, nS, nP, nB, nI0, mRp, mMp⟩ := hN
  refine qMet.of (L := [some (.ref (qb E + 0)), some (.int p), some (.int b), none]) (by decide +kernel) (Nat.le_of_ble_eq_true rfl) rfl ?_
  refine lda_n_4_0 (pc := 0) d_On_done_0 ?_
  refine ldi_n_4_1 (pc := 1) d_On_done_1 ?_
  refine r_callV (pc := 2) (As := [.int p]) (k := 8) (N := 11) (T := T_On) k_On_82 im_On_isMourner se_On_isMourner rfl (by decide) rfl (by decide) d_On_done_2 (by assumption) (c_On_isMourner hO0) rfl (Nat.le_of_ble_eq_true rfl) (by omega) (by omega) (by omega) (fun v S' I' J' hq => ?_)
  obtain ⟨rfl, rfl, rfl, rfl⟩ := hq
  rw [hc]
  unfold ca_done ci_done
  refine r_if_ne (pc := 5) (tgt := 10) d_On_done_5 (by decide) (fun c1 => ?_) (fun c1 => ?_)
  · rw [if_neg c1, if_neg c1]
    obtain ⟨q, hq, rfl⟩ := qisM_y (by omega) c1
    have hin : vp_in (nI q) 6 := vp_in_nI (by omega) (by omega)
    have hRc : qR S (6 + 1) (nI q).toNatClampNeg = some (qm 6 q) := by rw [qcl (by omega)]; exact mRp q (by omega)
    have hMT : qT S (qm 6 q) 2 := (mMp q (by omega)).1
    have eq : (nI q).toNatClampNeg = q := qcl (by omega)
    rw [eq]
    refine lda_n_4_0 (pc := 10) d_On_done_10 ?_
    refine g_On_23 (pc := 11) rfl d_On_done_11 (by assumption) (by assumption) ?_
    refine g_On_72 (pc := 14) rfl d_On_done_14 (by assumption) (by assumption) ?_
    refine ldi_n_4_1 (pc := 17) d_On_done_17 ?_
    refine r_aald14 (pc := 18) d_On_done_18 (by assumption) (by first | assumption | exact vp_in_nI (by omega) (by omega) | (unfold vp_in; decide)) (by assumption) ?_
    refine g_On_101 (pc := 19) rfl d_On_done_19 (by assumption) ?_
    refine r_callS (pc := 22) (As := [.int (I (qm 6 q) 6)]) k_On_105 sw_On_bit rfl (by decide) d_On_done_22 (c_On_bit _) rfl (Nat.le_of_ble_eq_true rfl) (by omega) (by omega) (by omega) (fun v S' I' J' hq => ?_)
    obtain ⟨rfl, rfl, rfl, rfl⟩ := hq
    refine sti_n_4_3 (pc := 25) d_On_done_25 rfl ?_
    refine lda_n_4_0 (pc := 26) d_On_done_26 ?_
    refine g_On_23 (pc := 27) rfl d_On_done_27 (by assumption) (by assumption) ?_
    refine g_On_72 (pc := 30) rfl d_On_done_30 (by assumption) (by assumption) ?_
    refine ldi_n_4_1 (pc := 33) d_On_done_33 ?_
    refine r_aald14 (pc := 34) d_On_done_34 (by assumption) (by first | assumption | exact vp_in_nI (by omega) (by omega) | (unfold vp_in; decide)) (by assumption) ?_
    refine ldi_n_4_2 (pc := 35) d_On_done_35 ?_
    refine p_On_101 (pc := 36) rfl d_On_done_36 (by assumption) (by first | exact Or.inl rfl | exact Or.inr rfl | assumption) ?_
    refine ldi_n_4_3 (pc := 39) d_On_done_39 ?_
    exact r_iret d_On_done_40 rfl (by omega) (by omega) (⟨rfl, rfl, rfl, rfl⟩)
  · rw [if_pos c1, if_pos c1]
    refine r_iconst (pc := 8) (v := (-1)) d_On_done_8 rfl ?_
    exact r_iret d_On_done_9 rfl (by omega) (by omega) (⟨rfl, rfl, rfl, rfl⟩)
theorem c_On_list {p : Int32} {c l : Nat} (hO : isOn S w0 w1 w2 bl) (hc : I 6 1 = nI c) (hc6 : c ≤ 6) (hl : I 6 3 = nI l) (hl6 : l ≤ 6) : qMet E y_On_list b_On_list 2 (some .int) 2 0 0 [.ref (qb E + 0), .int p] S I J (fun r S' I' J' => r = some (.int (ca_list I c l p)) ∧ S = S' ∧ I' = ci_list I c l p ∧ J = J') := by
  have hO0 := hO
  obtain ⟨oT, oR0, oR1, oR2, oR3, oR5, oR6, oR8, oR9, oR10, hI1, hN, hA, hM3, hRe, hBl, hRo, hAc, tA, tR, tT⟩ := hO
  have hNN := hN
  have hN0 := hN
  obtain ⟨mT, mA1, mA2, mR0, mR2, mR5, mR6, mR7, mR8, nS, nP, nB, nI0, mRp, mMp⟩ := hN
  refine qMet.of (L := [some (.ref (qb E + 0)), some (.int p)]) (by decide +kernel) (Nat.le_of_ble_eq_true rfl) rfl ?_
  unfold ca_list ci_list
  refine ldi_n_2_1 (pc := 0) d_On_list_0 ?_
  refine r_iconst (pc := 1) (v := (-1)) d_On_list_1 rfl ?_
  refine r_icmp_ne (pc := 2) (tgt := 15) d_On_list_2 (by decide) (fun c0 => ?_) (fun c0 => ?_)
  · rw [if_neg c0, if_neg c0]
    refine lda_n_2_0 (pc := 15) d_On_list_15 ?_
    refine ldi_n_2_1 (pc := 16) d_On_list_16 ?_
    refine r_callV (pc := 17) (As := [.int p]) (k := 8) (N := 11) (T := T_On) k_On_82 im_On_isMourner se_On_isMourner rfl (by decide) rfl (by decide) d_On_list_17 (by assumption) (c_On_isMourner hO0) rfl (Nat.le_of_ble_eq_true rfl) (by omega) (by omega) (by omega) (fun v S' I' J' hq => ?_)
    obtain ⟨rfl, rfl, rfl, rfl⟩ := hq
    rw [hc]
    refine r_if_ne (pc := 20) (tgt := 25) d_On_list_20 (by decide) (fun c1 => ?_) (fun c1 => ?_)
    · rw [if_neg c1, if_neg c1]
      refine lda_n_2_0 (pc := 25) d_On_list_25 ?_
      refine g_On_23 (pc := 26) rfl d_On_list_26 (by assumption) (by assumption) ?_
      refine ldi_n_2_1 (pc := 29) d_On_list_29 ?_
      refine r_callVN (pc := 30) (As := [.int p]) (k := 3) (N := 9) (T := T_Mg) k_On_109 im_Mg_placeOf se_Mg_placeOf rfl (by decide) rfl (by decide) d_On_list_30 (by assumption) (c_Mg_placeOf hNN hl hl6) rfl (Nat.le_of_ble_eq_true rfl) (by omega) (by omega) (by omega) (fun v S' I' J' hq => ?_)
      obtain ⟨rfl, rfl, rfl, rfl⟩ := hq
      refine r_if_ge (pc := 33) (tgt := 48) d_On_list_33 (by decide) (fun c2 => ?_) (fun c2 => ?_)
      · rw [if_pos c2, if_pos c2]
        refine r_bipush (pc := 48) (v := (-3)) d_On_list_48 rfl ?_
        exact r_iret d_On_list_50 rfl (by omega) (by omega) (⟨rfl, rfl, rfl, rfl⟩)
      · rw [if_neg c2, if_neg c2]
        refine lda_n_2_0 (pc := 36) d_On_list_36 ?_
        refine g_On_23 (pc := 37) rfl d_On_list_37 (by assumption) (by assumption) ?_
        refine g_On_118 (pc := 40) rfl d_On_list_40 (by assumption) ?_
        refine r_bipush (pc := 43) (v := 6) d_On_list_43 rfl ?_
        rw [hl]
        refine r_icmp_lt (pc := 45) (tgt := 51) d_On_list_45 (by decide) (fun c3 => ?_) (fun c3 => ?_)
        · have h6 : l < 6 := (nI_ltI (by omega) (by omega)).mp (show nI l < nI 6 from c3)
          rw [if_pos h6, if_pos h6]
          refine lda_n_2_0 (pc := 51) d_On_list_51 ?_
          refine g_On_23 (pc := 52) rfl d_On_list_52 (by assumption) (by assumption) ?_
          refine g_On_121 (pc := 55) rfl d_On_list_55 (by assumption) (by assumption) ?_
          refine lda_n_2_0 (pc := 58) d_On_list_58 ?_
          refine g_On_23 (pc := 59) rfl d_On_list_59 (by assumption) (by assumption) ?_
          refine g_On_118 (pc := 62) rfl d_On_list_62 (by assumption) ?_
          rw [hl]
          refine ldi_n_2_1 (pc := 65) d_On_list_65 ?_
          refine r_iast (pc := 66) d_On_list_66 (by assumption) (by first | assumption | exact vp_in_nI (by omega) (by omega) | (unfold vp_in; decide)) ?_
          refine lda_n_2_0 (pc := 67) d_On_list_67 ?_
          refine g_On_23 (pc := 68) rfl d_On_list_68 (by assumption) (by assumption) ?_
          refine r_dup (pc := 71) d_On_list_71 rfl ?_
          refine g_On_118 (pc := 72) rfl d_On_list_72 (by assumption) ?_
          refine r_iconst (pc := 75) (v := 1) d_On_list_75 rfl ?_
          refine r_iadd (pc := 76) d_On_list_76 ?_
          refine p_On_118 (pc := 77) rfl d_On_list_77 (by assumption) ?_
          have e1 : qup I (6 + 2) (nI l).toNatClampNeg p 6 3 = nI l := by rw [qup_o (by decide)]; exact hl
          rw [e1, q1]
          refine lda_n_2_0 (pc := 80) d_On_list_80 ?_
          refine g_On_23 (pc := 81) rfl d_On_list_81 (by assumption) (by assumption) ?_
          refine g_On_118 (pc := 84) rfl d_On_list_84 (by assumption) ?_
          rw [qup_at, qcl (n := l) (by omega)]
          exact r_iret d_On_list_87 rfl (by omega) (by omega) (⟨rfl, rfl, rfl, rfl⟩)
        · have h6 : ¬ l < 6 := fun q => c3 (show nI l < nI 6 from nI_lt q (by omega))
          rw [if_neg h6, if_neg h6]
          refine r_bipush (pc := 48) (v := (-3)) d_On_list_48 rfl ?_
          exact r_iret d_On_list_50 rfl (by omega) (by omega) (⟨rfl, rfl, rfl, rfl⟩)
    · rw [if_pos c1, if_pos c1]
      refine r_iconst (pc := 23) (v := (-1)) d_On_list_23 rfl ?_
      exact r_iret d_On_list_24 rfl (by omega) (by omega) (⟨rfl, rfl, rfl, rfl⟩)
  · rw [if_pos c0, if_pos c0]
    refine lda_n_2_0 (pc := 5) d_On_list_5 ?_
    refine g_On_23 (pc := 6) rfl d_On_list_6 (by assumption) (by assumption) ?_
    refine r_iconst (pc := 9) (v := 0) d_On_list_9 rfl ?_
    refine p_On_118 (pc := 10) rfl d_On_list_10 (by assumption) ?_
    refine r_iconst (pc := 13) (v := 0) d_On_list_13 rfl ?_
    exact r_iret d_On_list_14 rfl (by omega) (by omega) (⟨rfl, rfl, rfl, rfl⟩)
theorem c_On_swap {p q : Int32} {c l : Nat} (hO : isOn S w0 w1 w2 bl) (hc : I 6 1 = nI c) (hc6 : c ≤ 6) (hl : I 6 3 = nI l) (hl6 : l ≤ 6) : qMet E y_On_swap b_On_swap 5 (some .int) 2 0 0 [.ref (qb E + 0), .int p, .int q] S I J (fun r S' I' J' => r = some (.int (ca_swap I c l p q)) ∧ S = S' ∧ I' = ci_swap I c l p q ∧ J = J') := by
  have hO0 := hO
  obtain ⟨oT, oR0, oR1, oR2, oR3, oR5, oR6, oR8, oR9, oR10, hI1, hN, hA, hM3, hRe, hBl, hRo, hAc, tA, tR, tT⟩ := hO
  have hNN := hN
  have hN0 := hN
  obtain ⟨mT, mA1, mA2, mR0, mR2, mR5, mR6, mR7, mR8, nS, nP, nB, nI0, mRp, mMp⟩ := hN
  refine qMet.of (L := [some (.ref (qb E + 0)), some (.int p), some (.int q), none, none]) (by decide +kernel) (Nat.le_of_ble_eq_true rfl) rfl ?_
  unfold ca_swap ci_swap
  refine lda_n_5_0 (pc := 0) d_On_swap_0 ?_
  refine ldi_n_5_1 (pc := 1) d_On_swap_1 ?_
  refine r_callV (pc := 2) (As := [.int p]) (k := 8) (N := 11) (T := T_On) k_On_82 im_On_isMourner se_On_isMourner rfl (by decide) rfl (by decide) d_On_swap_2 (by assumption) (c_On_isMourner hO0) rfl (Nat.le_of_ble_eq_true rfl) (by omega) (by omega) (by omega) (fun v S' I' J' hq => ?_)
  obtain ⟨rfl, rfl, rfl, rfl⟩ := hq
  rw [hc]
  refine r_if_eq (pc := 5) (tgt := 16) d_On_swap_5 (by decide) (fun c1 => ?_) (fun c1 => ?_)
  · rw [if_pos c1, if_pos c1]
    refine r_iconst (pc := 16) (v := (-1)) d_On_swap_16 rfl ?_
    exact r_iret d_On_swap_17 rfl (by omega) (by omega) (⟨rfl, rfl, rfl, rfl⟩)
  · rw [if_neg c1, if_neg c1]
    refine lda_n_5_0 (pc := 8) d_On_swap_8 ?_
    refine ldi_n_5_2 (pc := 9) d_On_swap_9 ?_
    refine r_callV (pc := 10) (As := [.int q]) (k := 8) (N := 11) (T := T_On) k_On_82 im_On_isMourner se_On_isMourner rfl (by decide) rfl (by decide) d_On_swap_10 (by assumption) (c_On_isMourner hO0) rfl (Nat.le_of_ble_eq_true rfl) (by omega) (by omega) (by omega) (fun v S' I' J' hq => ?_)
    obtain ⟨rfl, rfl, rfl, rfl⟩ := hq
    rw [hc]
    refine r_if_ne (pc := 13) (tgt := 18) d_On_swap_13 (by decide) (fun c2 => ?_) (fun c2 => ?_)
    · rw [if_neg c2, if_neg c2]
      refine ldi_n_5_1 (pc := 18) d_On_swap_18 ?_
      refine ldi_n_5_2 (pc := 19) d_On_swap_19 ?_
      refine r_icmp_ne (pc := 20) (tgt := 26) d_On_swap_20 (by decide) (fun c3 => ?_) (fun c3 => ?_)
      · rw [if_neg c3, if_neg c3]
        refine lda_n_5_0 (pc := 26) d_On_swap_26 ?_
        refine g_On_23 (pc := 27) rfl d_On_swap_27 (by assumption) (by assumption) ?_
        refine ldi_n_5_1 (pc := 30) d_On_swap_30 ?_
        refine r_callVN (pc := 31) (As := [.int p]) (k := 3) (N := 9) (T := T_Mg) k_On_109 im_Mg_placeOf se_Mg_placeOf rfl (by decide) rfl (by decide) d_On_swap_31 (by assumption) (c_Mg_placeOf hNN hl hl6) rfl (Nat.le_of_ble_eq_true rfl) (by omega) (by omega) (by omega) (fun v S' I' J' hq => ?_)
        obtain ⟨rfl, rfl, rfl, rfl⟩ := hq
        refine sti_n_5_3 (pc := 34) d_On_swap_34 rfl ?_
        refine lda_n_5_0 (pc := 35) d_On_swap_35 ?_
        refine g_On_23 (pc := 36) rfl d_On_swap_36 (by assumption) (by assumption) ?_
        refine ldi_n_5_2 (pc := 39) d_On_swap_39 ?_
        refine r_callVN (pc := 40) (As := [.int q]) (k := 3) (N := 9) (T := T_Mg) k_On_109 im_Mg_placeOf se_Mg_placeOf rfl (by decide) rfl (by decide) d_On_swap_40 (by assumption) (c_Mg_placeOf hNN hl hl6) rfl (Nat.le_of_ble_eq_true rfl) (by omega) (by omega) (by omega) (fun v S' I' J' hq => ?_)
        obtain ⟨rfl, rfl, rfl, rfl⟩ := hq
        refine sti_5_4 (pc := 43) d_On_swap_43 rfl ?_
        refine ldi_n_5_3 (pc := 45) d_On_swap_45 ?_
        refine r_if_lt (pc := 46) (tgt := 54) d_On_swap_46 (by decide) (fun c4 => ?_) (fun c4 => ?_)
        · rw [if_pos c4, if_pos c4]
          refine r_bipush (pc := 54) (v := (-3)) d_On_swap_54 rfl ?_
          exact r_iret d_On_swap_56 rfl (by omega) (by omega) (⟨rfl, rfl, rfl, rfl⟩)
        · rw [if_neg c4, if_neg c4]
          refine ldi_5_4 (pc := 49) d_On_swap_49 ?_
          refine r_if_ge (pc := 51) (tgt := 57) d_On_swap_51 (by decide) (fun c5 => ?_) (fun c5 => ?_)
          · have c5' : ¬ qplace (I 8) q l l < 0 := Int32.not_lt.mpr c5
            rw [if_neg c5', if_neg c5']
            obtain ⟨a, a1, a2, -⟩ := qplace_neg (by omega) c4
            obtain ⟨b, b1, b2, -⟩ := qplace_neg (by omega) c5'
            have hp : vp_in (qplace (I (6 + 2)) p l l) 6 := by rw [a2]; exact vp_in_nI (by omega) (by omega)
            have hq2 : vp_in (qplace (I (6 + 2)) q l l) 6 := by rw [show qplace (I (6 + 2)) q l l = nI b from b2]; exact vp_in_nI (by omega) (by omega)
            refine lda_n_5_0 (pc := 57) d_On_swap_57 ?_
            refine g_On_23 (pc := 58) rfl d_On_swap_58 (by assumption) (by assumption) ?_
            refine g_On_121 (pc := 61) rfl d_On_swap_61 (by assumption) (by assumption) ?_
            refine ldi_n_5_3 (pc := 64) d_On_swap_64 ?_
            refine ldi_n_5_2 (pc := 65) d_On_swap_65 ?_
            refine r_iast (pc := 66) d_On_swap_66 (by assumption) (by first | assumption | exact vp_in_nI (by omega) (by omega) | (unfold vp_in; decide)) ?_
            refine lda_n_5_0 (pc := 67) d_On_swap_67 ?_
            refine g_On_23 (pc := 68) rfl d_On_swap_68 (by assumption) (by assumption) ?_
            refine g_On_121 (pc := 71) rfl d_On_swap_71 (by assumption) (by assumption) ?_
            refine ldi_5_4 (pc := 74) d_On_swap_74 ?_
            refine ldi_n_5_1 (pc := 76) d_On_swap_76 ?_
            refine r_iast (pc := 77) d_On_swap_77 (by assumption) (by first | assumption | exact vp_in_nI (by omega) (by omega) | (unfold vp_in; decide)) ?_
            refine ldi_5_4 (pc := 78) d_On_swap_78 ?_
            exact r_iret d_On_swap_80 rfl (by omega) (by omega) (⟨rfl, rfl, rfl, rfl⟩)
          · have c5' : qplace (I 8) q l l < 0 := Int32.not_le.mp c5
            rw [if_pos c5', if_pos c5']
            refine r_bipush (pc := 54) (v := (-3)) d_On_swap_54 rfl ?_
            exact r_iret d_On_swap_56 rfl (by omega) (by omega) (⟨rfl, rfl, rfl, rfl⟩)
      · rw [if_pos c3, if_pos c3]
        refine r_bipush (pc := 23) (v := (-2)) d_On_swap_23 rfl ?_
        exact r_iret d_On_swap_25 rfl (by omega) (by omega) (⟨rfl, rfl, rfl, rfl⟩)
    · rw [if_pos c2, if_pos c2]
      refine r_iconst (pc := 16) (v := (-1)) d_On_swap_16 rfl ?_
      exact r_iret d_On_swap_17 rfl (by omega) (by omega) (⟨rfl, rfl, rfl, rfl⟩)
theorem c_On_row {p r n : Int32} {c : Nat} (hO : isOn S w0 w1 w2 bl) (hc : I 6 1 = nI c) (hc6 : c ≤ 6) : qMet E y_On_row b_On_row 6 (some .int) 2 0 0 [.ref (qb E + 0), .int p, .int r, .int n] S I J (fun v S' I' J' => v = some (.int (ca_row I c p r n)) ∧ S = S' ∧ I' = ci_row I c p r n ∧ J = J') := by
  have hO0 := hO
  obtain ⟨oT, oR0, oR1, oR2, oR3, oR5, oR6, oR8, oR9, oR10, hI1, hN, hA, hM3, hRe, hBl, hRo, hAc, tA, tR, tT⟩ := hO
  have hN0 := hN
  obtain ⟨mT, mA1, mA2, mR0, mR2, mR5, mR6, mR7, mR8, nS, nP, nB, nI0, mRp, mMp⟩ := hN
  refine qMet.of (L := [some (.ref (qb E + 0)), some (.int p), some (.int r), some (.int n), none, none]) (by decide +kernel) (Nat.le_of_ble_eq_true rfl) rfl ?_
  unfold ca_row ci_row
  refine lda_n_6_0 (pc := 0) d_On_row_0 ?_
  refine ldi_n_6_1 (pc := 1) d_On_row_1 ?_
  refine r_callV (pc := 2) (As := [.int p]) (k := 8) (N := 11) (T := T_On) k_On_82 im_On_isMourner se_On_isMourner rfl (by decide) rfl (by decide) d_On_row_2 (by assumption) (c_On_isMourner hO0) rfl (Nat.le_of_ble_eq_true rfl) (by omega) (by omega) (by omega) (fun v S' I' J' hq => ?_)
  obtain ⟨rfl, rfl, rfl, rfl⟩ := hq
  rw [hc]
  refine r_if_eq (pc := 5) (tgt := 17) d_On_row_5 (by decide) (fun c1 => ?_) (fun c1 => ?_)
  · rw [if_pos c1, if_pos c1]
    refine r_iconst (pc := 17) (v := (-1)) d_On_row_17 rfl ?_
    exact r_iret d_On_row_18 rfl (by omega) (by omega) (⟨rfl, rfl, rfl, rfl⟩)
  · rw [if_neg c1, if_neg c1]
    refine ldi_n_6_2 (pc := 8) d_On_row_8 ?_
    refine r_iconst (pc := 9) (v := 0) d_On_row_9 rfl ?_
    refine r_iconst (pc := 10) (v := 3) d_On_row_10 rfl ?_
    refine r_callS (pc := 11) (As := [.int r, .int 0, .int 3]) k_On_64 sw_On_within rfl (by decide) d_On_row_11 (c_On_within _ _ _) rfl (Nat.le_of_ble_eq_true rfl) (by omega) (by omega) (by omega) (fun v S' I' J' hq => ?_)
    obtain ⟨rfl, rfl, rfl, rfl⟩ := hq
    refine r_if_ne (pc := 14) (tgt := 19) d_On_row_14 (by decide) (fun c2 => ?_) (fun c2 => ?_)
    · rw [if_neg c2, if_neg c2]
      refine ldi_n_6_3 (pc := 19) d_On_row_19 ?_
      refine r_iconst (pc := 20) (v := 0) d_On_row_20 rfl ?_
      refine r_bipush (pc := 21) (v := 9) d_On_row_21 rfl ?_
      refine r_callS (pc := 23) (As := [.int n, .int 0, .int 9]) k_On_64 sw_On_within rfl (by decide) d_On_row_23 (c_On_within _ _ _) rfl (Nat.le_of_ble_eq_true rfl) (by omega) (by omega) (by omega) (fun v S' I' J' hq => ?_)
      obtain ⟨rfl, rfl, rfl, rfl⟩ := hq
      refine r_if_ne (pc := 26) (tgt := 32) d_On_row_26 (by decide) (fun c3 => ?_) (fun c3 => ?_)
      · rw [if_neg c3, if_neg c3]
        obtain ⟨q, hq, rfl⟩ := qisM_y (by omega) c1
        have hin : vp_in (nI q) 6 := vp_in_nI (by omega) (by omega)
        have hRc : qR S (6 + 1) (nI q).toNatClampNeg = some (qm 6 q) := by rw [qcl (by omega)]; exact mRp q (by omega)
        obtain ⟨hMT, hMA, hMR⟩ := mMp q (by omega)
        have hMT : qT S (qm 6 q) 2 := hMT
        have hMA : qAr S (qm 6 q + 1) 11 4 := hMA
        have hMR : qR S (qm 6 q) 7 = some (qm 6 q + 1) := hMR
        have eq : (nI q).toNatClampNeg = q := qcl (by omega)
        have hir : vp_in r 4 := by
          obtain ⟨h1, h2⟩ := qwithin_y c2
          obtain ⟨k, k1, k2⟩ := nI_of2 (M := 3) (n := 3) rfl (Int32.not_lt.mpr h1) h2
          rw [k2]; exact vp_in_nI (by omega) (by omega)
        rw [eq]
        refine lda_n_6_0 (pc := 32) d_On_row_32 ?_
        refine g_On_23 (pc := 33) rfl d_On_row_33 (by assumption) (by assumption) ?_
        refine g_On_72 (pc := 36) rfl d_On_row_36 (by assumption) (by assumption) ?_
        refine ldi_n_6_1 (pc := 39) d_On_row_39 ?_
        refine r_aald14 (pc := 40) d_On_row_40 (by assumption) (by first | assumption | exact vp_in_nI (by omega) (by omega) | (unfold vp_in; decide)) (by assumption) ?_
        refine sta_6_4 (pc := 41) d_On_row_41 rfl ?_
        refine lda_6_4 (pc := 43) d_On_row_43 ?_
        refine g_On_86 (pc := 45) rfl d_On_row_45 (by assumption) ?_
        refine r_bipush (pc := 48) (v := 6) d_On_row_48 rfl ?_
        refine r_icmp_eq (pc := 50) (tgt := 56) d_On_row_50 (by decide) (fun c4 => ?_) (fun c4 => ?_)
        · have c4' : I (qm 6 q) 1 = 6 := c4
          rw [if_pos c4', if_pos c4']
          refine lda_6_4 (pc := 56) d_On_row_56 ?_
          refine g_On_125 (pc := 58) rfl d_On_row_58 (by assumption) (by assumption) ?_
          refine ldi_n_6_2 (pc := 61) d_On_row_61 ?_
          refine r_iald (pc := 62) d_On_row_62 (by assumption) (by first | assumption | exact vp_in_nI (by omega) (by omega) | (unfold vp_in; decide)) ?_
          refine sti_6_5 (pc := 63) d_On_row_63 rfl ?_
          refine lda_6_4 (pc := 65) d_On_row_65 ?_
          refine g_On_125 (pc := 67) rfl d_On_row_67 (by assumption) (by assumption) ?_
          refine ldi_n_6_2 (pc := 70) d_On_row_70 ?_
          refine ldi_n_6_3 (pc := 71) d_On_row_71 ?_
          refine r_iast (pc := 72) d_On_row_72 (by assumption) (by first | assumption | exact vp_in_nI (by omega) (by omega) | (unfold vp_in; decide)) ?_
          refine ldi_6_5 (pc := 73) d_On_row_73 ?_
          exact r_iret d_On_row_75 rfl (by omega) (by omega) (⟨rfl, rfl, rfl, rfl⟩)
        · have c4' : ¬ I (qm 6 q) 1 = 6 := c4
          rw [if_neg c4', if_neg c4']
          refine r_bipush (pc := 53) (v := (-3)) d_On_row_53 rfl ?_
          exact r_iret d_On_row_55 rfl (by omega) (by omega) (⟨rfl, rfl, rfl, rfl⟩)
      · rw [if_pos c3, if_pos c3]
        refine r_bipush (pc := 29) (v := (-2)) d_On_row_29 rfl ?_
        exact r_iret d_On_row_31 rfl (by omega) (by omega) (⟨rfl, rfl, rfl, rfl⟩)
    · rw [if_pos c2, if_pos c2]
      refine r_iconst (pc := 17) (v := (-1)) d_On_row_17 rfl ?_
      exact r_iret d_On_row_18 rfl (by omega) (by omega) (⟨rfl, rfl, rfl, rfl⟩)
theorem c_On_feed {x : Int32} {z : Nat} (hO : isOn S w0 w1 w2 bl) (hz : I 87 1 = nI z) (hz1 : z ≤ 100) : qMet E y_On_feed b_On_feed 2 (some .int) 1 0 0 [.ref (qb E + 0), .int x] S I J (fun r S' I' J' => r = some (.int (ca_feed z x)) ∧ S = S' ∧ I' = ci_feed I z x ∧ J = J') := by
  obtain ⟨oT, oR0, oR1, oR2, oR3, oR5, oR6, oR8, oR9, oR10, hI1, hN, hA, hM3, hRe, hBl, hRo, hAc, tA, tR, tT⟩ := hO
  obtain ⟨rT, rA, rR⟩ := hRe
  refine qMet.of (L := [some (.ref (qb E + 0)), some (.int x)]) (by decide +kernel) (Nat.le_of_ble_eq_true rfl) rfl ?_
  unfold ca_feed ci_feed
  refine ldi_n_2_1 (pc := 0) d_On_feed_0 ?_
  refine r_iconst (pc := 1) (v := 0) d_On_feed_1 rfl ?_
  refine r_bipush (pc := 2) (v := 127) d_On_feed_2 rfl ?_
  refine r_callS (pc := 4) (As := [.int x, .int 0, .int 127]) k_On_64 sw_On_within rfl (by decide) d_On_feed_4 (c_On_within _ _ _) rfl (Nat.le_of_ble_eq_true rfl) (by omega) (by omega) (by omega) (fun v S' I' J' hq => ?_)
  obtain ⟨rfl, rfl, rfl, rfl⟩ := hq
  refine r_if_ne (pc := 7) (tgt := 13) d_On_feed_7 (by decide) (fun c1 => ?_) (fun c1 => ?_)
  · rw [if_neg c1, if_neg c1]
    refine lda_n_2_0 (pc := 13) d_On_feed_13 ?_
    refine g_On_36 (pc := 14) rfl d_On_feed_14 (by assumption) (by assumption) ?_
    refine g_On_128 (pc := 17) rfl d_On_feed_17 (by assumption) ?_
    refine r_bipush (pc := 20) (v := 100) d_On_feed_20 rfl ?_
    rw [hz]
    refine r_icmp_lt (pc := 22) (tgt := 28) d_On_feed_22 (by decide) (fun c2 => ?_) (fun c2 => ?_)
    · have h6 : z < 100 := (nI_ltI (by omega) (by omega)).mp (show nI z < nI 100 from c2)
      rw [if_pos h6, if_pos h6]
      obtain ⟨k, k1, rfl⟩ := qw127 c1
      refine lda_n_2_0 (pc := 28) d_On_feed_28 ?_
      refine g_On_36 (pc := 29) rfl d_On_feed_29 (by assumption) (by assumption) ?_
      refine g_On_131 (pc := 32) rfl d_On_feed_32 (by assumption) (by assumption) ?_
      refine lda_n_2_0 (pc := 35) d_On_feed_35 ?_
      refine g_On_36 (pc := 36) rfl d_On_feed_36 (by assumption) (by assumption) ?_
      refine g_On_128 (pc := 39) rfl d_On_feed_39 (by assumption) ?_
      rw [hz]
      refine ldi_n_2_1 (pc := 42) d_On_feed_42 ?_
      refine r_i2b (pc := 43) d_On_feed_43 ?_
      rw [i2b_ok k k1]
      refine r_bast (pc := 44) d_On_feed_44 (by assumption) (by first | assumption | exact vp_in_nI (by omega) (by omega) | (unfold vp_in; decide)) ?_
      rw [vnb_ok k k1]
      have e1 : qup I 88 (nI z).toNatClampNeg (nI k) 87 1 = nI z := by rw [qup_o (by decide)]; exact hz
      refine lda_n_2_0 (pc := 45) d_On_feed_45 ?_
      refine g_On_36 (pc := 46) rfl d_On_feed_46 (by assumption) (by assumption) ?_
      refine r_dup (pc := 49) d_On_feed_49 rfl ?_
      refine g_On_128 (pc := 50) rfl d_On_feed_50 (by assumption) ?_
      refine r_iconst (pc := 53) (v := 1) d_On_feed_53 rfl ?_
      refine r_iadd (pc := 54) d_On_feed_54 ?_
      refine p_On_128 (pc := 55) rfl d_On_feed_55 (by assumption) ?_
      rw [e1, q1, qcl (n := z) (by omega)]
      refine lda_n_2_0 (pc := 58) d_On_feed_58 ?_
      refine g_On_36 (pc := 59) rfl d_On_feed_59 (by assumption) (by assumption) ?_
      refine g_On_128 (pc := 62) rfl d_On_feed_62 (by assumption) ?_
      rw [qup_at]
      exact r_iret d_On_feed_65 rfl (by omega) (by omega) (⟨rfl, rfl, rfl, rfl⟩)
    · have h6 : ¬ z < 100 := fun q => c2 (show nI z < nI 100 from nI_lt q (by omega))
      rw [if_neg h6, if_neg h6]
      refine r_bipush (pc := 25) (v := (-4)) d_On_feed_25 rfl ?_
      exact r_iret d_On_feed_27 rfl (by omega) (by omega) (⟨rfl, rfl, rfl, rfl⟩)
  · rw [if_pos c1, if_pos c1]
    refine r_bipush (pc := 10) (v := (-2)) d_On_feed_10 rfl ?_
    exact r_iret d_On_feed_12 rfl (by omega) (by omega) (⟨rfl, rfl, rfl, rfl⟩)
end H1
