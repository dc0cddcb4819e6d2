/-! a Mourning becomes as another -/
theorem qbecomes_row {I : qI} {o q a : Nat} (h1 : a ≠ o) (h2 : a ≠ o + 1) : qbecomes I o q a = I a := by
  unfold qbecomes
  rw [qfil_o h2, qup_row h1, qup_row h1, qup_row h1, qup_row h1, qup_row h1, qup_row h1]
def qbecN (I : qI) (o q : Nat) : Nat → qI
  | 0 => I
  | p + 1 => qbecomes (qbecN I o q p) (qm o p) (qm q p)
theorem qbecN_row {I : qI} {o q a : Nat} : ∀ n, n ≤ 6 → (a < o + 15 ∨ o + 26 < a) → qbecN I o q n a = I a := by
  intro n
  induction n with
  | zero => intro _ _; rfl
  | succ n ih =>
    intro hn h
    have h1 := qm_lo (o := o) (p := n); have h2 := qm_hi (o := o) (p := n) (by omega)
    rw [qbecN, qbecomes_row (by omega) (by omega), ih (by omega) h]
theorem qnbec_row {I : qI} {o q k a : Nat} (h : a < o ∨ o + 3 < a) : qnbec I o q k a = I a := by
  unfold qnbec
  rw [qfil3_o (by omega) (by omega) (by omega), qup_row (by omega)]
def qmbA (I : qI) (o q : Nat) : qI := qup (qfil (qup (qbecN (qup I o 1 (I q 1)) o q (I q 1).toNatClampNeg) o 3 (I q 3)) (o + 2) (I q 3).toNatClampNeg (I (q + 2))) o 4 (I q 4)
def qmbec (I : qI) (o q : Nat) : qI := qnbec (qnbec (qnbec (qmbA I o q) (o + 3) (q + 3) (I (q + 3) 3).toNatClampNeg) (o + 7) (q + 7) (I (q + 7) 3).toNatClampNeg) (o + 11) (q + 11) (I (q + 11) 3).toNatClampNeg
/-- two Mournings' cells are apart -/
def qApM (o q : Nat) : Prop := q + 26 < o ∨ o + 26 < q
theorem qmbA_row {I : qI} {o q a D : Nat} (hok : qMgOK I q D) (h : a < o ∨ o + 26 < a) : qmbA I o q a = I a := by
  obtain ⟨⟨c, hc6, hc⟩, -⟩ := hok
  unfold qmbA
  rw [hc, qcl (by omega), qup_row (by omega), qfil_o (by omega), qup_row (by omega), qbecN_row c hc6 (by omega), qup_row (by omega)]
theorem qmbec_row {I : qI} {o q a D : Nat} (hok : qMgOK I q D) (h : a < o ∨ o + 26 < a) : qmbec I o q a = I a := by
  unfold qmbec
  rw [qnbec_row (by omega), qnbec_row (by omega), qnbec_row (by omega), qmbA_row hok h]
section QC8
variable {E : qE} {S : qSh} {I : qI} {J : qJ}
theorem isMo.setR {o o2 j : Nat} {x : Option Nat} (h : isMo S o) (hj : j ≠ 7) : isMo (qsetR S o2 j x) o := ⟨h.1, h.2.1, by show qup (qR S) o2 j x o 7 = _; rw [qup_j (Ne.symm hj)]; exact h.2.2⟩
theorem isNo.set5 {o o2 n : Nat} {x : Option Nat} (h : isNo S o n) : isNo (qsetR S o2 5 x) o n := by
  obtain ⟨a, b, c, d, e, f, g⟩ := h
  refine ⟨a, b, c, d, ?_, ?_, ?_⟩
  · show qup (qR S) o2 5 x o 0 = _; rw [qup_j (by decide)]; exact e
  · show qup (qR S) o2 5 x o 1 = _; rw [qup_j (by decide)]; exact f
  · show qup (qR S) o2 5 x o 2 = _; rw [qup_j (by decide)]; exact g
theorem isIs.set5 {o o2 : Nat} {x : Option Nat} (h : isIs S o) : isIs (qsetR S o2 5 x) o := by
  obtain ⟨a, b, c, d, e, f, g, i, k⟩ := h
  refine ⟨a, b, c, d, e, ?_, ?_, ?_, ?_⟩
  · show qup (qR S) o2 5 x o 0 = _; rw [qup_j (by decide)]; exact f
  · show qup (qR S) o2 5 x o 2 = _; rw [qup_j (by decide)]; exact g
  · show qup (qR S) o2 5 x o 3 = _; rw [qup_j (by decide)]; exact i
  · show qup (qR S) o2 5 x o 6 = _; rw [qup_j (by decide)]; exact k
theorem isMg.set5 {o i w : Nat} (h : isMg S o i) (hw : isIs S w) : isMg (qsetR S o 5 (some w)) o w := by
  obtain ⟨hT, hA1, hA2, hR0, hR2, hR5, hR6, hR7, hR8, hN1, hN2, hN3, hIs, hRp, hMp⟩ := h
  refine ⟨hT, hA1, hA2, ?_, ?_, ?_, ?_, ?_, ?_, hN1.set5, hN2.set5, hN3.set5, hw.set5, fun p hp => ?_, fun p hp => (hMp p hp).setR (by decide)⟩
  · show qup (qR S) o 5 (some w) o 0 = _; rw [qup_j (by decide)]; exact hR0
  · show qup (qR S) o 5 (some w) o 2 = _; rw [qup_j (by decide)]; exact hR2
  · show qup (qR S) o 5 (some w) o 5 = _; rw [qup_at]
  · show qup (qR S) o 5 (some w) o 6 = _; rw [qup_j (by decide)]; exact hR6
  · show qup (qR S) o 5 (some w) o 7 = _; rw [qup_j (by decide)]; exact hR7
  · show qup (qR S) o 5 (some w) o 8 = _; rw [qup_j (by decide)]; exact hR8
  · show qup (qR S) o 5 (some w) (o + 1) p = _; rw [qup_o (by omega)]; exact hRp p hp
theorem isMg.set5o {o o2 i : Nat} {x : Option Nat} (h : isMg S o i) (h2 : qApM o o2) : isMg (qsetR S o2 5 x) o i := by
  obtain ⟨hT, hA1, hA2, hR0, hR2, hR5, hR6, hR7, hR8, hN1, hN2, hN3, hIs, hRp, hMp⟩ := h
  unfold qApM at h2
  refine ⟨hT, hA1, hA2, ?_, ?_, ?_, ?_, ?_, ?_, hN1.set5, hN2.set5, hN3.set5, hIs.set5, fun p hp => ?_, fun p hp => (hMp p hp).setR (by decide)⟩
  · show qup (qR S) o2 5 x o 0 = _; rw [qup_o (by omega)]; exact hR0
  · show qup (qR S) o2 5 x o 2 = _; rw [qup_o (by omega)]; exact hR2
  · show qup (qR S) o2 5 x o 5 = _; rw [qup_o (by omega)]; exact hR5
  · show qup (qR S) o2 5 x o 6 = _; rw [qup_o (by omega)]; exact hR6
  · show qup (qR S) o2 5 x o 7 = _; rw [qup_o (by omega)]; exact hR7
  · show qup (qR S) o2 5 x o 8 = _; rw [qup_o (by omega)]; exact hR8
  · show qup (qR S) o2 5 x (o + 1) p = _; rw [qup_o (by omega)]; exact hRp p hp
theorem c_Mg_becomes {o q i w D : Nat} (hM : isMg S o i) (hQ : isMg S q w) (hok : qMgOK I q D) (hap : qApM o q) : qMet E y_Mg_becomes b_Mg_becomes 3 none 2 0 0 [.ref (qb E + o), .ref (qb E + q)] S I J (fun v S' I' J' => v = none ∧ S' = qsetR S o 5 (some w) ∧ I' = qmbec I o q ∧ J = J') := by
  have hM0 := hM
  have hQ0 := hQ
  obtain ⟨hT, hA1, hA2, hR0, hR2, hR5, hR6, hR7, hR8, hN1, hN2, hN3, hIs, hRp, hMp⟩ := hM
  obtain ⟨gT, gA1, gA2, gR0, gR2, gR5, gR6, gR7, gR8, gN1, gN2, gN3, gIs, gRp, gMp⟩ := hQ
  have hok0 := hok
  obtain ⟨⟨c, hc6, hc⟩, ⟨l, hl6, hl⟩, ⟨d, hd6, hd⟩, ⟨z1, h1, e1⟩, ⟨z2, h2, e2⟩, ⟨z3, h3, e3⟩, hb, hs⟩ := hok
  unfold qApM at hap
  have hqo : q ≠ o := by omega
  refine qMet.of (L := [some (.ref (qb E + o)), some (.ref (qb E + q)), none]) (by decide +kernel) (Nat.le_of_ble_eq_true rfl) rfl ?_
  refine lda_n_3_0 (pc := 0) d_Mg_becomes_0 ?_
  refine lda_n_3_1 (pc := 1) d_Mg_becomes_1 ?_
  refine g_Mg_41 (pc := 2) rfl d_Mg_becomes_2 (by assumption) ?_
  refine p_Mg_41 (pc := 5) rfl d_Mg_becomes_5 (by assumption) ?_
  refine r_iconst (pc := 8) (v := 0) d_Mg_becomes_8 rfl ?_
  refine sti_n_3_2 (pc := 9) d_Mg_becomes_9 rfl ?_
  have key := qfor (P := fun p => qW E y_Mg_becomes b_Mg_becomes none 2 0 0 (fun v S' I' J' => v = none ∧ S' = qsetR S o 5 (some w) ∧ I' = qmbec I o q ∧ J = J') 0 0 10 [some (.ref (qb E + o)), some (.ref (qb E + q)), some (.int (nI p))] [] S (qbecN (qup I o 1 (I q 1)) o q p) J) c ?_ ?_ 0 (by omega)
  · exact key
  · refine ldi_n_3_2 (pc := 10) d_Mg_becomes_10 ?_
    refine lda_n_3_0 (pc := 11) d_Mg_becomes_11 ?_
    refine g_Mg_41 (pc := 12) rfl d_Mg_becomes_12 (by assumption) ?_
    rw [qbecN_row c hc6 (Or.inl (by omega)), qup_at, hc]
    refine r_icmp_ge (pc := 15) (tgt := 39) d_Mg_becomes_15 (by decide) (fun c1 => ?_) (fun c1 => ?_)
    · refine lda_n_3_0 (pc := 39) d_Mg_becomes_39 ?_
      refine lda_n_3_1 (pc := 40) d_Mg_becomes_40 ?_
      refine g_Mg_49 (pc := 41) rfl d_Mg_becomes_41 (by assumption) ?_
      refine p_Mg_49 (pc := 44) rfl d_Mg_becomes_44 (by assumption) ?_
      refine r_iconst (pc := 47) (v := 0) d_Mg_becomes_47 rfl ?_
      refine sti_n_3_2 (pc := 48) d_Mg_becomes_48 rfl ?_
      rw [qbecN_row c hc6 (by omega), qup_row hqo, hl]
      have key2 := qfor (P := fun k => qW E y_Mg_becomes b_Mg_becomes none 2 0 0 (fun v S' I' J' => v = none ∧ S' = qsetR S o 5 (some w) ∧ I' = qmbec I o q ∧ J = J') 0 0 49 [some (.ref (qb E + o)), some (.ref (qb E + q)), some (.int (nI k))] [] S (qfil (qup (qbecN (qup I o 1 (nI c)) o q c) o 3 (nI l)) (o + 2) k (I (q + 2))) J) l ?_ ?_ 0 (by omega)
      · rw [qfil_0] at key2; exact key2
      · refine ldi_n_3_2 (pc := 49) d_Mg_becomes_49 ?_
        refine lda_n_3_0 (pc := 50) d_Mg_becomes_50 ?_
        refine g_Mg_49 (pc := 51) rfl d_Mg_becomes_51 (by assumption) ?_
        rw [qfil_o (show o ≠ o + 2 by omega), qup_at]
        refine r_icmp_ge (pc := 54) (tgt := 75) d_Mg_becomes_54 (by decide) (fun c2 => ?_) (fun c2 => ?_)
        · refine lda_n_3_0 (pc := 75) d_Mg_becomes_75 ?_
          refine lda_n_3_1 (pc := 76) d_Mg_becomes_76 ?_
          refine g_Mg_52 (pc := 77) rfl d_Mg_becomes_77 (by assumption) ?_
          refine p_Mg_52 (pc := 80) rfl d_Mg_becomes_80 (by assumption) ?_
          rw [qfil_o (show q ≠ o + 2 by omega), qup_o hqo, qbecN_row c hc6 (by omega), qup_o hqo]
          refine lda_n_3_0 (pc := 83) d_Mg_becomes_83 ?_
          refine lda_n_3_1 (pc := 84) d_Mg_becomes_84 ?_
          refine g_Mg_36 (pc := 85) rfl d_Mg_becomes_85 (by assumption) (by assumption) ?_
          refine p_Mg_36 (pc := 88) rfl d_Mg_becomes_88 (by assumption) ?_
          have hA : qup (qfil (qup (qbecN (qup I o 1 (nI c)) o q c) o 3 (nI l)) (o + 2) l (I (q + 2))) o 4 (I q 4) = qmbA I o q := by
            unfold qmbA; rw [hc, hl, qcl (by omega), qcl (by omega)]
          rw [hA]
          have rq : ∀ a, q ≤ a → a ≤ q + 26 → qmbA I o q a = I a := fun a g1 g2 => qmbA_row hok0 (by omega)
          have hM1 : isMg (qsetR S o 5 (some w)) o w := hM0.set5 gIs
          have hQ1 : isMg (qsetR S o 5 (some w)) q w := hQ0.set5o (by unfold qApM; omega)
          obtain ⟨hT, hA1, hA2, hR0, hR2, hR5, hR6, hR7, hR8, hN1, hN2, hN3, hIs, hRp, hMp⟩ := hM1
          obtain ⟨gT, gA1, gA2, gR0, gR2, gR5, gR6, gR7, gR8, gN1, gN2, gN3, gIs, gRp, gMp⟩ := hQ1
          have hT4 := hN1.1
          have hT7 := hN2.1
          have hT11 := hN3.1
          refine lda_n_3_0 (pc := 91) d_Mg_becomes_91 ?_
          refine g_Mg_26 (pc := 92) rfl d_Mg_becomes_92 (by assumption) (by assumption) ?_
          refine lda_n_3_1 (pc := 95) d_Mg_becomes_95 ?_
          refine g_Mg_26 (pc := 96) rfl d_Mg_becomes_96 (by assumption) (by assumption) ?_
          refine r_callVN (pc := 99) (As := [.ref (qb E + (q + 3))]) (k := 4) (N := 4) (T := T_No) k_Mg_55 im_No_becomes se_No_becomes rfl (by decide) rfl (by decide) d_Mg_becomes_99 (by assumption) (c_No_becomes hN1 gN1 (k := z1) (by rw [rq _ (by omega) (by omega)]; exact e1) h1 (by decide) (by omega)) rfl (Nat.le_of_ble_eq_true rfl) (by omega) (by omega) (by omega) (fun v S' I' J' hq => ?_)
          obtain ⟨rfl, rfl, rfl, rfl⟩ := hq
          refine lda_n_3_0 (pc := 102) d_Mg_becomes_102 ?_
          refine g_Mg_30 (pc := 103) rfl d_Mg_becomes_103 (by assumption) (by assumption) ?_
          refine lda_n_3_1 (pc := 106) d_Mg_becomes_106 ?_
          refine g_Mg_30 (pc := 107) rfl d_Mg_becomes_107 (by assumption) (by assumption) ?_
          refine r_callVN (pc := 110) (As := [.ref (qb E + (q + 7))]) (k := 4) (N := 4) (T := T_No) k_Mg_55 im_No_becomes se_No_becomes rfl (by decide) rfl (by decide) d_Mg_becomes_110 (by assumption) (c_No_becomes hN2 gN2 (k := z2) (by rw [qnbec_row (by omega), rq _ (by omega) (by omega)]; exact e2) h2 (by decide) (by omega)) rfl (Nat.le_of_ble_eq_true rfl) (by omega) (by omega) (by omega) (fun v S' I' J' hq => ?_)
          obtain ⟨rfl, rfl, rfl, rfl⟩ := hq
          refine lda_n_3_0 (pc := 113) d_Mg_becomes_113 ?_
          refine g_Mg_33 (pc := 114) rfl d_Mg_becomes_114 (by assumption) (by assumption) ?_
          refine lda_n_3_1 (pc := 117) d_Mg_becomes_117 ?_
          refine g_Mg_33 (pc := 118) rfl d_Mg_becomes_118 (by assumption) (by assumption) ?_
          refine r_callVN (pc := 121) (As := [.ref (qb E + (q + 11))]) (k := 4) (N := 4) (T := T_No) k_Mg_55 im_No_becomes se_No_becomes rfl (by decide) rfl (by decide) d_Mg_becomes_121 (by assumption) (c_No_becomes hN3 gN3 (k := z3) (by rw [qnbec_row (by omega), qnbec_row (by omega), rq _ (by omega) (by omega)]; exact e3) h3 (by decide) (by omega)) rfl (Nat.le_of_ble_eq_true rfl) (by omega) (by omega) (by omega) (fun v S' I' J' hq => ?_)
          obtain ⟨rfl, rfl, rfl, rfl⟩ := hq
          exact r_vret d_Mg_becomes_124 rfl (by omega) (by omega) (⟨rfl, rfl, by unfold qmbec; rw [e1, e2, e3, qcl (by omega), qcl (by omega), qcl (by omega)], rfl⟩)
        · exact absurd (nI_le (Nat.le_refl _) (by omega)) c2
      · intro k hk ih
        have hin : vp_in (nI k) 6 := vp_in_nI (by omega) (by omega)
        refine ldi_n_3_2 (pc := 49) d_Mg_becomes_49 ?_
        refine lda_n_3_0 (pc := 50) d_Mg_becomes_50 ?_
        refine g_Mg_49 (pc := 51) rfl d_Mg_becomes_51 (by assumption) ?_
        rw [qfil_o (show o ≠ o + 2 by omega), qup_at]
        refine r_icmp_ge (pc := 54) (tgt := 75) d_Mg_becomes_54 (by decide) (fun c2 => ?_) (fun c2 => ?_)
        · exact absurd c2 (nI_ge hk (by omega))
        · refine lda_n_3_0 (pc := 57) d_Mg_becomes_57 ?_
          refine g_Mg_17 (pc := 58) rfl d_Mg_becomes_58 (by assumption) (by assumption) ?_
          refine ldi_n_3_2 (pc := 61) d_Mg_becomes_61 ?_
          refine lda_n_3_1 (pc := 62) d_Mg_becomes_62 ?_
          refine g_Mg_17 (pc := 63) rfl d_Mg_becomes_63 (by assumption) (by assumption) ?_
          refine ldi_n_3_2 (pc := 66) d_Mg_becomes_66 ?_
          refine r_iald (pc := 67) d_Mg_becomes_67 (by assumption) (hin) ?_
          refine r_iast (pc := 68) d_Mg_becomes_68 (by assumption) (hin) ?_
          rw [qcl (by omega), qfil_o (show q + 2 ≠ o + 2 by omega), qup_row (show q + 2 ≠ o by omega), qbecN_row c hc6 (by omega), qup_row (show q + 2 ≠ o by omega), qfil_s]
          refine inc_3_2 (pc := 69) (w := 1) d_Mg_becomes_69 rfl rfl ?_
          refine r_goto (pc := 72) (tgt := 49) d_Mg_becomes_72 (by decide) ?_
          rw [q1]
          exact ih
    · exact absurd (nI_le (Nat.le_refl _) (by omega)) c1
  · intro p hp ih
    have hin : vp_in (nI p) 6 := vp_in_nI (by omega) (by omega)
    have hR : qR S (o + 1) (nI p).toNatClampNeg = some (qm o p) := by rw [qcl (by omega)]; exact hRp p (by omega)
    have gR : qR S (q + 1) (nI p).toNatClampNeg = some (qm q p) := by rw [qcl (by omega)]; exact gRp p (by omega)
    have hMo := hMp p (by omega)
    have gMo := gMp p (by omega)
    change isMo S (qm o p) at hMo
    change isMo S (qm q p) at gMo
    have hT3 := hMo.1
    have a1 := qm_lo (o := o) (p := p); have a2 := qm_hi (o := o) (p := p) (by omega)
    have b1 := qm_lo (o := q) (p := p); have b2 := qm_hi (o := q) (p := p) (by omega)
    have rq : qbecN (qup I o 1 (I q 1)) o q p (qm q p) = I (qm q p) := by rw [qbecN_row p (by omega) (by omega), qup_row (by omega)]
    refine ldi_n_3_2 (pc := 10) d_Mg_becomes_10 ?_
    refine lda_n_3_0 (pc := 11) d_Mg_becomes_11 ?_
    refine g_Mg_41 (pc := 12) rfl d_Mg_becomes_12 (by assumption) ?_
    rw [qbecN_row p (by omega) (Or.inl (by omega)), qup_at]
    rw [hc] at *
    refine r_icmp_ge (pc := 15) (tgt := 39) d_Mg_becomes_15 (by decide) (fun c1 => ?_) (fun c1 => ?_)
    · exact absurd c1 (nI_ge hp (by omega))
    · refine lda_n_3_0 (pc := 18) d_Mg_becomes_18 ?_
      refine g_Mg_11 (pc := 19) rfl d_Mg_becomes_19 (by assumption) (by assumption) ?_
      refine ldi_n_3_2 (pc := 22) d_Mg_becomes_22 ?_
      refine r_aald14 (pc := 23) d_Mg_becomes_23 (by assumption) (hin) (by assumption) ?_
      refine lda_n_3_1 (pc := 24) d_Mg_becomes_24 ?_
      refine g_Mg_11 (pc := 25) rfl d_Mg_becomes_25 (by assumption) (by assumption) ?_
      refine ldi_n_3_2 (pc := 28) d_Mg_becomes_28 ?_
      refine r_aald14 (pc := 29) d_Mg_becomes_29 (by assumption) (hin) (by assumption) ?_
      refine r_callVN (pc := 30) (As := [.ref (qb E + qm q p)]) (k := 2) (N := 8) (T := T_Mo) k_Mg_45 im_Mo_becomes se_Mo_becomes rfl (by decide) rfl (by decide) d_Mg_becomes_30 (by assumption) (c_Mo_becomes hMo gMo (by omega) (by omega) (by omega) (by rw [rq]; exact hb p (by omega))) rfl (Nat.le_of_ble_eq_true rfl) (by omega) (by omega) (by omega) (fun v S' I' J' hq => ?_)
      obtain ⟨rfl, rfl, rfl, rfl⟩ := hq
      refine inc_3_2 (pc := 33) (w := 1) d_Mg_becomes_33 rfl rfl ?_
      refine r_goto (pc := 36) (tgt := 10) d_Mg_becomes_36 (by decide) ?_
      rw [q1]
      exact ih
end QC8
