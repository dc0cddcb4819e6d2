/-! days that go -/
def qEq (x : Nat) (I I' : qI) : Prop := ∀ a, a ≠ x → I' a = I a
theorem qEq.rf {x : Nat} {I : qI} : qEq x I I := fun _ _ => rfl
theorem qEq.fil {x : Nat} {I I' : qI} {n : Nat} {f : Nat → Int32} (h : qEq x I I') : qEq x I (qfil I' x n f) := fun a ha => (qfil_o ha).trans (h a ha)
theorem qEq.up {x a j : Nat} {I I' : qI} {v : Int32} (h : qEq x I I') : qEq x (qup I a j v) (qup I' a j v) := fun b hb => by
  by_cases e : b = a
  · subst e; funext i; unfold qup; rw [h b hb]
  · rw [qup_row e, qup_row e, h b hb]
theorem qEq.tr {x : Nat} {I I' I2 : qI} (h : qEq x I I') (h2 : qEq x I' I2) : qEq x I I2 := fun a ha => (h2 a ha).trans (h a ha)
def qgoP (I : qI) (o i : Nat) (hv most : Int32) (p : Nat) : qI := if nI p = hv then qup I (qm o p) 6 1 else if I (qm o p) 6 = 0 then qup (qup I (qm o p) 5 (qmin most (I (qm o p) 5 + qpainAt I o i (qm o p) (nI 0)))) (qm o p) 4 (qmin 99 (I (qm o p) 4 + 1)) else I
def qgoPs (I : qI) (o i : Nat) (hv most : Int32) : Nat → qI
  | 0 => I
  | p + 1 => qgoP (qgoPs I o i hv most p) o i hv most p
def qgo1 (I : qI) (o i : Nat) (most : Int32) : qI := qup (qgoPs I o i (qhas I o i) most (I o 1).toNatClampNeg) o 4 (I o 4 + 1)
def qgoN (I : qI) (o i : Nat) (most : Int32) : Nat → qI
  | 0 => I
  | n + 1 => qgo1 (qgoN I o i most n) o i most
theorem qgoP_row {I : qI} {o i p a : Nat} {hv most : Int32} (h : a ≠ qm o p) : qgoP I o i hv most p a = I a := by
  unfold qgoP; repeat' split
  · rw [qup_row h]
  · rw [qup_row h, qup_row h]
  · rfl
theorem qgoPs_row {I : qI} {o i a : Nat} {hv most : Int32} : ∀ n, (∀ p, p < n → a ≠ qm o p) → qgoPs I o i hv most n a = I a := by
  intro n
  induction n with
  | zero => intro _; rfl
  | succ n ih => intro h; rw [qgoPs, qgoP_row (h n (Nat.lt_succ_self n)), ih (fun p hp => h p (Nat.lt_succ_of_lt hp))]
theorem qgoP_done {I : qI} {o i p a : Nat} {hv most : Int32} (h : qbool (I a 6)) : qbool (qgoP I o i hv most p a 6) := by
  unfold qgoP; repeat' split
  · unfold qup; split
    · exact Or.inr rfl
    · exact h
  · rw [qup_j (by decide), qup_j (by decide)]; exact h
  · exact h
theorem qgoPs_done {I : qI} {o i a : Nat} {hv most : Int32} (h : qbool (I a 6)) : ∀ n, qbool (qgoPs I o i hv most n a 6) := by
  intro n
  induction n with
  | zero => exact h
  | succ n ih => exact qgoP_done ih
theorem qm_ne {o p a : Nat} (hp : p < 6) (h : a < o + 15 ∨ o + 26 < a) : a ≠ qm o p := by unfold qm; omega
theorem qMgOK.go1 {I : qI} {o i D : Nat} {most : Int32} (h : qMgOK I o D) : qMgOK (qgo1 I o i most) o (D + 1) := by
  obtain ⟨⟨c, hc6, hc⟩, ⟨l, hl6, hl⟩, ⟨d, hd6, hd⟩, ⟨z1, h1, e1⟩, ⟨z2, h2, e2⟩, ⟨z3, h3, e3⟩, hb, hs⟩ := h
  have hcc : (I o 1).toNatClampNeg = c := by rw [hc, qcl (by omega)]
  have row : ∀ a, a < o + 15 → qgoPs I o i (qhas I o i) most c a = I a := fun a ha => qgoPs_row c (fun p hp => qm_ne (by omega) (Or.inl ha))
  unfold qgo1
  rw [hcc]
  refine ⟨⟨c, hc6, ?_⟩, ⟨l, hl6, ?_⟩, ⟨d + 1, by omega, ?_⟩, ⟨z1, h1, ?_⟩, ⟨z2, h2, ?_⟩, ⟨z3, h3, ?_⟩, fun p hp => ?_, fun r hr => ?_⟩
  · rw [qup_j (by decide), row _ (by omega)]; exact hc
  · rw [qup_j (by decide), row _ (by omega)]; exact hl
  · rw [qup_at, hd, q1]
  · rw [qup_o (by omega), row _ (by omega)]; exact e1
  · rw [qup_o (by omega), row _ (by omega)]; exact e2
  · rw [qup_o (by omega), row _ (by omega)]; exact e3
  · rw [qup_j (by decide)]; exact qgoPs_done (hb p hp) c
  · rw [qup_o (by omega), row _ (by omega)]; exact hs r hr
theorem qMgOK.goN {I : qI} {o i D : Nat} {most : Int32} (h : qMgOK I o D) : ∀ n, qMgOK (qgoN I o i most n) o (D + n) := by
  intro n
  induction n with
  | zero => exact h
  | succ n ih => exact ih.go1
theorem qIsOK.of {I I' : qI} {i : Nat} (h : qIsOK I i) (h0 : I' i = I i) (h3 : I' (i + 3) = I (i + 3)) : qIsOK I' i := by
  unfold qIsOK; rw [h0, h3]; exact h
theorem qgo1_row {I : qI} {o i a : Nat} {most : Int32} {c : Nat} (hc : I o 1 = nI c) (h6 : c ≤ 6) (h : a < o ∨ o + 26 < a) : qgo1 I o i most a = I a := by
  unfold qgo1
  rw [hc, qcl (by omega), qup_row (by omega), qgoPs_row c (fun p hp => qm_ne (by omega) (by omega))]
theorem qgoN_row {I : qI} {o i a D : Nat} {most : Int32} (hok : qMgOK I o D) (h : a < o ∨ o + 26 < a) : ∀ n, qgoN I o i most n a = I a := by
  intro n
  induction n with
  | zero => rfl
  | succ n ih =>
    obtain ⟨⟨c, hc6, hc⟩, -⟩ := hok.goN (i := i) (most := most) n
    rw [qgoN, qgo1_row hc hc6 h, ih]
theorem qsum_row {I I' : qI} {i : Nat} {vs : Nat → Int32} {g : Int32} (h0 : I' i = I i) (h1 : I' (i + 1) = I (i + 1)) (h2 : I' (i + 2) = I (i + 2)) (h3 : I' (i + 3) = I (i + 3)) : qsum I' i vs g = qsum I i vs g := by
  unfold qsum
  rw [h0]
  have he : qe I' i = qe I i := by funext j; unfold qe; rw [h3]
  generalize (I i 4).toNatClampNeg = n
  induction n with
  | zero => rfl
  | succ n ih => rw [qsumN, qsumN, ih, he, h1, h2]
theorem qvals_row {I I' : qI} {m : Nat} {d w : Int32} (h : I' m = I m) : qvals I' m d w = qvals I m d w := by funext k; unfold qvals; rw [h]
theorem qpain_row {I I' : qI} {i m : Nat} {d w : Int32} (hm : I' m = I m) (hm1 : I' (m + 1) = I (m + 1)) (h0 : I' i = I i) (h1 : I' (i + 1) = I (i + 1)) (h2 : I' (i + 2) = I (i + 2)) (h3 : I' (i + 3) = I (i + 3)) : qpain I' i m d w = qpain I i m d w := by
  unfold qpain
  rw [qvals_row hm, hm, qsum_row h0 h1 h2 h3, qpainBy_row hm hm1]
theorem qpainAt_eq {I I' : qI} {o i m : Nat} {n : Int32} (h : qEq (i + 4) I I') (ho : o ≠ i + 4) (hm : m + 1 < i ∨ i + 4 < m) : qpainAt I' o i m n = qpainAt I o i m n := by
  unfold qpainAt
  rw [h o ho, h m (by omega), qpain_row (h m (by omega)) (h (m + 1) (by omega)) (h i (by omega)) (h (i + 1) (by omega)) (h (i + 2) (by omega)) (h (i + 3) (by omega))]
theorem qm_lo {o p : Nat} : o + 15 ≤ qm o p := by unfold qm; omega
theorem qm_hi {o p : Nat} (h : p < 6) : qm o p + 1 ≤ o + 26 := by unfold qm; omega
theorem qgoP_eq {I I' : qI} {o i p : Nat} {hv most : Int32} (hp : p < 6) (hap : qApart o i) (h : qEq (i + 4) I I') : qEq (i + 4) (qgoP I o i hv most p) (qgoP I' o i hv most p) := by
  have h1 := qm_lo (o := o) (p := p)
  have h2 := qm_hi (o := o) hp
  have hm : I' (qm o p) = I (qm o p) := h _ (by rcases hap with q | q <;> omega)
  unfold qgoP
  rw [hm, qpainAt_eq h (by rcases hap with q | q <;> omega) (by rcases hap with q | q <;> omega)]
  repeat' split
  · exact h.up
  · exact h.up.up
  · exact h
theorem qleft_eq {I I' : qI} {o : Nat} {c : Nat} {x : Int32} (hc : I o 1 = nI c) (h6 : c ≤ 6) (ho : I' o = I o) (hm : ∀ p, p < 6 → I' (qm o p) = I (qm o p)) : qleft I' o x = qleft I o x := by
  unfold qleft
  rw [ho]
  by_cases h0 : x < 0
  · rw [if_pos h0, if_pos h0]
  · rw [if_neg h0, if_neg h0]
    by_cases h1 : I o 1 ≤ x
    · rw [if_pos h1, if_pos h1]
    · rw [if_neg h1, if_neg h1]
      rw [hc] at h1
      obtain ⟨j, hj, rfl⟩ := qix (by omega) h0 h1
      rw [qcl (by omega), hm j (by omega)]
theorem qhasN_eq {f f' t t' : Nat → Int32} {l : Nat} (hf : f' = f) (ht : t' = t) : ∀ j, qhasN f' t' l j = qhasN f t l j := by subst hf; subst ht; exact fun _ => rfl
theorem qhas_eq {I I' : qI} {o i c : Nat} (hc : I o 1 = nI c) (h6 : c ≤ 6) (h0 : I' o = I o) (h2 : I' (o + 2) = I (o + 2)) (hi : I' i = I i) (hm : ∀ p, p < 6 → I' (qm o p) = I (qm o p)) : qhas I' o i = qhas I o i := by
  unfold qhas
  rw [h0, hi, h2]
  have : (fun k => qleft I' o (I (o + 2) k)) = fun k => qleft I o (I (o + 2) k) := funext fun k => qleft_eq hc h6 h0 hm
  rw [this]
section QC6
variable {E : qE} {S : qSh} {I : qI} {J : qJ}
theorem c_Mg_go {o i D n : Nat} {most : Int32} (hM : isMg S o i) (hok : qMgOK I o D) (hI : qIsOK I i) (hap : qApart o i) (hD : D + n < 1000000) : qMet E y_Mg_go b_Mg_go 7 none 4 0 0 [.ref (qb E + o), .int (nI n), .int most] S I J (fun v S' I' J' => v = none ∧ S = S' ∧ qEq (i + 4) (qgoN I o i most n) I' ∧ J = J') := by
  have hM0 := hM
  obtain ⟨hT, hA1, hA2, hR0, hR2, hR5, hR6, hR7, hR8, hN1, hN2, hN3, hIs, hRp, hMp⟩ := hM
  refine qMet.of (L := [some (.ref (qb E + o)), some (.int (nI n)), some (.int most), none, none, none, none]) (by decide +kernel) (Nat.le_of_ble_eq_true rfl) rfl ?_
  refine r_iconst (pc := 0) (v := 0) d_Mg_go_0 rfl ?_
  refine sti_n_7_3 (pc := 1) d_Mg_go_1 rfl ?_
  have key := qfor (P := fun k => ∀ M : qI, qEq (i + 4) (qgoN I o i most k) M → qW E y_Mg_go b_Mg_go none 4 0 0 (fun v S' I' J' => v = none ∧ S = S' ∧ qEq (i + 4) (qgoN I o i most n) I' ∧ J = J') 0 0 2 [some (.ref (qb E + o)), some (.int (nI n)), some (.int most), some (.int (nI k)), none, none, none] [] S M J) n ?_ ?_ 0 (by omega)
  · exact key I qEq.rf
  · intro M hM1
    refine ldi_n_7_3 (pc := 2) d_Mg_go_2 ?_
    refine ldi_n_7_1 (pc := 3) d_Mg_go_3 ?_
    refine r_icmp_ge (pc := 4) (tgt := 119) d_Mg_go_4 (by decide) (fun c1 => ?_) (fun c1 => ?_)
    · exact r_vret d_Mg_go_119 rfl (by omega) (by omega) (⟨rfl, rfl, hM1, rfl⟩)
    · exact absurd (nI_le (Nat.le_refl _) (by omega)) c1
  · intro k hk ih M hM1
    have okP := hok.goN (i := i) (most := most) k
    have hIP : qIsOK (qgoN I o i most k) i := hI.of (qgoN_row hok (by rcases hap with q | q <;> omega) k) (qgoN_row hok (by rcases hap with q | q <;> omega) k)
    generalize hP : qgoN I o i most k = P at *
    have hnext : qgoN I o i most (k + 1) = qgo1 P o i most := by rw [qgoN, hP]
    rw [hnext] at ih
    obtain ⟨⟨c, hc6, hc⟩, ⟨l, hl6, hl⟩, ⟨dd, hdd, hd⟩, hrest⟩ := okP
    have ro : ∀ a, o ≤ a → a ≤ o + 26 → M a = P a := fun a h1 h2 => hM1 a (by rcases hap with q | q <;> omega)
    have okM : qMgOK M o (D + k) := by
      obtain ⟨s1, s2, s3, hb, hs⟩ := hrest
      refine ⟨⟨c, hc6, ?_⟩, ⟨l, hl6, ?_⟩, ⟨dd, hdd, ?_⟩, ?_, ?_, ?_, fun p hp => ?_, fun r hr => ?_⟩
      · rw [ro _ (by omega) (by omega)]; exact hc
      · rw [ro _ (by omega) (by omega)]; exact hl
      · rw [ro _ (by omega) (by omega)]; exact hd
      · rw [ro _ (by omega) (by omega)]; exact s1
      · rw [ro _ (by omega) (by omega)]; exact s2
      · rw [ro _ (by omega) (by omega)]; exact s3
      · have h1 := qm_lo (o := o) (p := p); have h2 := qm_hi (o := o) hp
        rw [ro _ (by omega) (by omega)]; exact hb p hp
      · rw [ro _ (by omega) (by omega)]; exact hs r hr
    refine ldi_n_7_3 (pc := 2) d_Mg_go_2 ?_
    refine ldi_n_7_1 (pc := 3) d_Mg_go_3 ?_
    refine r_icmp_ge (pc := 4) (tgt := 119) d_Mg_go_4 (by decide) (fun c1 => ?_) (fun c1 => ?_)
    · exact absurd c1 (nI_ge hk (by omega))
    · refine lda_n_7_0 (pc := 7) d_Mg_go_7 ?_
      refine r_callV (pc := 8) (As := []) (k := 3) (N := 9) (T := T_Mg) k_Mg_101 im_Mg_hasDay se_Mg_hasDay rfl (by decide) rfl (by decide) d_Mg_go_8 (by assumption) (c_Mg_hasDay hM0 okM) rfl (Nat.le_of_ble_eq_true rfl) (by omega) (by omega) (by omega) (fun v S' I' J' hq => ?_)
      obtain ⟨rfl, rfl, rfl, rfl⟩ := hq
      have hhv : qhas M o i = qhas P o i := qhas_eq hc hc6 (ro _ (by omega) (by omega)) (ro _ (by omega) (by omega)) (hM1 i (by omega)) (fun p hp => by
        have h1 := qm_lo (o := o) (p := p); have h2 := qm_hi (o := o) hp
        exact ro _ (by omega) (by omega))
      rw [hhv]
      have ih' := ih
      have inner := qfor (P := fun p => ∀ N : qI, qEq (i + 4) (qgoPs P o i (qhas P o i) most p) N → qW E y_Mg_go b_Mg_go none 4 0 0 (fun v S' I' J' => v = none ∧ S = S' ∧ qEq (i + 4) (qgoN I o i most n) I' ∧ J = J') 0 0 16 [some (.ref (qb E + o)), some (.int (nI n)), some (.int most), some (.int (nI k)), some (.int (qhas P o i)), some (.int (nI p)), none] [] S N J) c ?_ ?_ 0 (by omega)
      · refine sti_7_4 (pc := 11) d_Mg_go_11 rfl ?_
        refine r_iconst (pc := 13) (v := 0) d_Mg_go_13 rfl ?_
        refine sti_7_5 (pc := 14) d_Mg_go_14 rfl ?_
        exact qW.forget 6 (inner M hM1)
      · intro N hN1
        have hNo : N o = P o := by rw [hN1 o (by rcases hap with q | q <;> omega), qgoPs_row c (fun p hp => qm_ne (by omega) (by omega))]
        refine ldi_7_5 (pc := 16) d_Mg_go_16 ?_
        refine lda_n_7_0 (pc := 18) d_Mg_go_18 ?_
        refine g_Mg_41 (pc := 19) rfl d_Mg_go_19 (by assumption) ?_
        rw [hNo, hc]
        refine r_icmp_ge (pc := 22) (tgt := 103) d_Mg_go_22 (by decide) (fun c2 => ?_) (fun c2 => ?_)
        · refine lda_n_7_0 (pc := 103) d_Mg_go_103 ?_
          refine r_dup (pc := 104) d_Mg_go_104 rfl ?_
          refine g_Mg_52 (pc := 105) rfl d_Mg_go_105 (by assumption) ?_
          refine r_iconst (pc := 108) (v := 1) d_Mg_go_108 rfl ?_
          refine r_iadd (pc := 109) d_Mg_go_109 ?_
          refine p_Mg_52 (pc := 110) rfl d_Mg_go_110 (by assumption) ?_
          rw [hNo]
          refine inc_7_3 (pc := 113) (w := 1) d_Mg_go_113 rfl rfl ?_
          refine r_goto (pc := 116) (tgt := 2) d_Mg_go_116 (by decide) ?_
          rw [q1]
          refine qW.forget 4 (qW.forget 5 (qW.forget 6 (ih _ ?_)))
          unfold qgo1
          rw [hc, qcl (by omega)]
          exact hN1.up
        · exact absurd (nI_le (Nat.le_refl _) (by omega)) c2
      · intro p hp ih2 N hN1
        have hNo : N o = P o := by rw [hN1 o (by rcases hap with q | q <;> omega), qgoPs_row p (fun p hp => qm_ne (by omega) (by omega))]
        have hin : vp_in (nI p) 6 := vp_in_nI (by omega) (by omega)
        have hR : qR S (o + 1) (nI p).toNatClampNeg = some (qm o p) := by rw [qcl (by omega)]; exact hRp p (by omega)
        have hMo := hMp p (by omega)
        change isMo S (qm o p) at hMo
        have hT3 := hMo.1
        have hst := qgoP_eq (hv := qhas P o i) (most := most) (p := p) (by omega) hap hN1
        have back : ∀ (N' : qI) (z : Nat), qEq (i + 4) (qgoPs P o i (qhas P o i) most (p + 1)) N' → qW E y_Mg_go b_Mg_go none 4 0 0 (fun v S' I' J' => v = none ∧ S = S' ∧ qEq (i + 4) (qgoN I o i most n) I' ∧ J = J') 0 0 97 [some (.ref (qb E + o)), some (.int (nI n)), some (.int most), some (.int (nI k)), some (.int (qhas P o i)), some (.int (nI p)), some (.ref z)] [] S N' J := by
          intro N' z hN'
          refine inc_7_5 (pc := 97) (w := 1) d_Mg_go_97 rfl rfl ?_
          refine r_goto (pc := 100) (tgt := 16) d_Mg_go_100 (by decide) ?_
          rw [q1]
          exact qW.forget 6 (ih2 N' hN')
        refine ldi_7_5 (pc := 16) d_Mg_go_16 ?_
        refine lda_n_7_0 (pc := 18) d_Mg_go_18 ?_
        refine g_Mg_41 (pc := 19) rfl d_Mg_go_19 (by assumption) ?_
        rw [hNo, hc]
        refine r_icmp_ge (pc := 22) (tgt := 103) d_Mg_go_22 (by decide) (fun c2 => ?_) (fun c2 => ?_)
        · exact absurd c2 (nI_ge hp (by omega))
        · refine lda_n_7_0 (pc := 25) d_Mg_go_25 ?_
          refine g_Mg_11 (pc := 26) rfl d_Mg_go_26 (by assumption) (by assumption) ?_
          refine ldi_7_5 (pc := 29) d_Mg_go_29 ?_
          refine r_aald14 (pc := 31) d_Mg_go_31 (by assumption) (hin) (by assumption) ?_
          refine sta_7_6 (pc := 32) d_Mg_go_32 rfl ?_
          refine ldi_7_5 (pc := 34) d_Mg_go_34 ?_
          refine ldi_7_4 (pc := 36) d_Mg_go_36 ?_
          refine r_icmp_ne (pc := 38) (tgt := 50) d_Mg_go_38 (by decide) (fun c3 => ?_) (fun c3 => ?_)
          · refine lda_7_6 (pc := 50) d_Mg_go_50 ?_
            refine g_Mg_63 (pc := 52) rfl d_Mg_go_52 (by assumption) ?_
            refine r_if_ne (pc := 55) (tgt := 97) d_Mg_go_55 (by decide) (fun c4 => ?_) (fun c4 => ?_)
            · refine back _ _ ?_
              have e : qgoP N o i (qhas P o i) most p = N := by unfold qgoP; rw [if_neg c3, if_neg c4]
              rw [e] at hst
              exact hst
            · refine lda_7_6 (pc := 58) d_Mg_go_58 ?_
              refine ldi_n_7_2 (pc := 60) d_Mg_go_60 ?_
              refine lda_7_6 (pc := 61) d_Mg_go_61 ?_
              refine g_Mg_74 (pc := 63) rfl d_Mg_go_63 (by assumption) ?_
              refine lda_n_7_0 (pc := 66) d_Mg_go_66 ?_
              refine lda_7_6 (pc := 67) d_Mg_go_67 ?_
              refine r_iconst (pc := 69) (v := 0) d_Mg_go_69 rfl ?_
              rw [q0]
              have hIN : qIsOK N i := hIP.of (by rw [hN1 i (by omega), qgoPs_row p (fun p hp => qm_ne (by omega) (by rcases hap with q | q <;> omega))]) (by rw [hN1 (i + 3) (by omega), qgoPs_row p (fun p hp => qm_ne (by omega) (by rcases hap with q | q <;> omega))])
              have h1 := qm_lo (o := o) (p := p)
              have h2 := qm_hi (o := o) (p := p) (by omega)
              refine r_callV (pc := 70) (As := [.ref (qb E + qm o p), .int (nI 0)]) (k := 3) (N := 9) (T := T_Mg) k_Mg_105 im_Mg_painOf se_Mg_painOf rfl (by decide) rfl (by decide) d_Mg_go_70 (by assumption) (c_Mg_painOf hM0 hMo (by rcases hap with q | q <;> omega) hIN (dd := dd) (by rw [hNo]; exact hd) (by omega)) rfl (Nat.le_of_ble_eq_true rfl) (by omega) (by omega) (by omega) (fun v S' I' J' hq => ?_)
              obtain ⟨rfl, rfl, rfl, rfl⟩ := hq
              refine r_iadd (pc := 73) d_Mg_go_73 ?_
              refine r_callS (pc := 74) (As := [.int most, .int (N (qm o p) 5 + qpainAt N o i (qm o p) (nI 0))]) k_Mg_84 sw_jM_min rfl (by decide) d_Mg_go_74 (c_min _ _) rfl (Nat.le_of_ble_eq_true rfl) (by omega) (by omega) (by omega) (fun v S' I' J' hq => ?_)
              obtain ⟨rfl, rfl, rfl, rfl⟩ := hq
              refine p_Mg_74 (pc := 77) rfl d_Mg_go_77 (by assumption) ?_
              refine lda_7_6 (pc := 80) d_Mg_go_80 ?_
              refine r_bipush (pc := 82) (v := 99) d_Mg_go_82 rfl ?_
              refine lda_7_6 (pc := 84) d_Mg_go_84 ?_
              refine g_Mg_81 (pc := 86) rfl d_Mg_go_86 (by assumption) ?_
              refine r_iconst (pc := 89) (v := 1) d_Mg_go_89 rfl ?_
              refine r_iadd (pc := 90) d_Mg_go_90 ?_
              rw [qup_j (by decide), qfil_o (show qm o p ≠ i + 4 by rcases hap with q | q <;> omega)]
              refine r_callS (pc := 91) (As := [.int 99, .int (N (qm o p) 4 + 1)]) k_Mg_84 sw_jM_min rfl (by decide) d_Mg_go_91 (c_min _ _) rfl (Nat.le_of_ble_eq_true rfl) (by omega) (by omega) (by omega) (fun v S' I' J' hq => ?_)
              obtain ⟨rfl, rfl, rfl, rfl⟩ := hq
              refine p_Mg_81 (pc := 94) rfl d_Mg_go_94 (by assumption) ?_
              refine back _ _ ?_
              have e : qgoP N o i (qhas P o i) most p = qup (qup N (qm o p) 5 (qmin most (N (qm o p) 5 + qpainAt N o i (qm o p) (nI 0)))) (qm o p) 4 (qmin 99 (N (qm o p) 4 + 1)) := by unfold qgoP; rw [if_neg c3, if_pos c4]
              rw [e] at hst
              exact hst.tr (qEq.rf.fil.up.up)
          · refine lda_7_6 (pc := 41) d_Mg_go_41 ?_
            refine r_iconst (pc := 43) (v := 1) d_Mg_go_43 rfl ?_
            refine p_Mg_63 (pc := 44) rfl d_Mg_go_44 (by assumption) (by first | exact Or.inl rfl | exact Or.inr rfl | assumption) ?_
            refine r_goto (pc := 47) (tgt := 97) d_Mg_go_47 (by decide) ?_
            refine back _ _ ?_
            have e : qgoP N o i (qhas P o i) most p = qup N (qm o p) 6 1 := by unfold qgoP; rw [if_pos c3]
            rw [e] at hst
            exact hst
end QC6
