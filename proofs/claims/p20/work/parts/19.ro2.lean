/-! ROWS, second half: weighing, the first row, the walk, AGREED, DEAR -/
def qPw (i : Nat) : Nat → Prop := fun a => a = 95 ∨ a = i + 4
def qPr (i : Nat) : Nat → Prop := fun a => (94 ≤ a ∧ a ≤ 98) ∨ a = i + 4
/-- an island and a Mourning that lie where the whole object's lie -/
def qPos (o i : Nat) : Prop := qApart o i ∧ o + 26 < 87 ∧ (i + 4 < 6 ∨ (89 ≤ i ∧ i + 4 < 94) ∨ 113 < i)
theorem qMgOK.fr {I I' : qI} {o D : Nat} {P : Nat → Prop} (h : qMgOK I o D) (hf : qFr P I I') (hP : ∀ a, o ≤ a → a ≤ o + 26 → ¬ P a) : qMgOK I' o D := by
  refine h.rows (fun a h1 h2 => hf a (hP a h1 (by omega))) (fun p hp => ?_)
  have h1 := qm_lo (o := o) (p := p); have h2 := qm_hi (o := o) hp
  rw [hf _ (hP _ (by omega) (by omega))]
  exact h.2.2.2.2.2.2.1 p hp
theorem qPos.nw {o i : Nat} (h : qPos o i) : ∀ a, o ≤ a → a ≤ o + 26 → ¬ qPw i a := by
  obtain ⟨h1, h2, h3⟩ := h
  intro a a1 a2 q
  unfold qPw at q; unfold qApart at h1
  omega
theorem qPos.nr {o i : Nat} (h : qPos o i) : ∀ a, o ≤ a → a ≤ o + 26 → ¬ qPr i a := by
  obtain ⟨h1, h2, h3⟩ := h
  intro a a1 a2 q
  unfold qPr at q; unfold qApart at h1
  omega
theorem qPos.iw {o i : Nat} (h : qPos o i) : ∀ a, i ≤ a → a ≤ i + 3 → ¬ qPw i a := by
  obtain ⟨h1, h2, h3⟩ := h
  intro a a1 a2 q
  unfold qPw at q
  omega
theorem qPos.ir {o i : Nat} (h : qPos o i) : ∀ a, i ≤ a → a ≤ i + 3 → ¬ qPr i a := by
  obtain ⟨h1, h2, h3⟩ := h
  intro a a1 a2 q
  unfold qPr at q
  omega
section QRO2
variable {E : qE} {S : qSh} {I : qI} {J : qJ}
theorem c_Ro_weigh {o i D : Nat} (hR : isRo S) (hM : isMg S o i) (hok : qMgOK I o D) (hI : qIsOK I i) (hp : qPos o i) (hD : D < 100000) : qMet E y_Ro_weigh b_Ro_weigh 6 none 4 0 0 [.ref (qb E + 94), .ref (qb E + o)] S I J (fun v S' I' J' => v = none ∧ S = S' ∧ qFr (qPw i) I I' ∧ J = J') := by
  have hM0 := hM
  obtain ⟨rT, rA1, rA2, rA3, rA4, rR0, rR1, rR3, rR4⟩ := hR
  obtain ⟨hT, hA1, hA2, hR0, hR2, hR5, hR6, hR7, hR8, hN1, hN2, hN3, hIs, hRp, hMp⟩ := hM
  obtain ⟨c, hc6, hc⟩ := hok.1
  obtain ⟨dd, hdd, hd⟩ := hok.2.2.1
  refine qMet.of (L := [some (.ref (qb E + 94)), some (.ref (qb E + o)), none, none, none, none]) (by decide +kernel) (Nat.le_of_ble_eq_true rfl) rfl ?_
  refine r_iconst (pc := 0) (v := 0) d_Ro_weigh_0 rfl ?_
  refine sti_n_6_2 (pc := 1) d_Ro_weigh_1 rfl ?_
  have key := qfor (P := fun p => ∀ M : qI, qFr (qPw i) I M → qW E y_Ro_weigh b_Ro_weigh none 4 0 0 (fun v S' I' J' => v = none ∧ S = S' ∧ qFr (qPw i) I I' ∧ J = J') 0 0 2 [some (.ref (qb E + 94)), some (.ref (qb E + o)), some (.int (nI p)), none, none, none] [] S M J) c ?_ ?_ 0 (by omega)
  · exact key I qFr.rf
  · intro M hf
    refine ldi_n_6_2 (pc := 2) d_Ro_weigh_2 ?_
    refine lda_n_6_1 (pc := 3) d_Ro_weigh_3 ?_
    refine g_Ro_60 (pc := 4) rfl d_Ro_weigh_4 (by assumption) ?_
    rw [hf o (hp.nw o (by omega) (by omega)), hc]
    refine r_icmp_ge (pc := 7) (tgt := 89) d_Ro_weigh_7 (by decide) (fun c1 => ?_) (fun c1 => ?_)
    · exact r_vret d_Ro_weigh_89 rfl (by omega) (by omega) (⟨rfl, rfl, hf, rfl⟩)
    · exact absurd (nI_le (Nat.le_refl _) (by omega)) c1
  · intro p hpc ih M hf
    have hMo := hMp p (by omega)
    change isMo S (qm o p) at hMo
    have out : ∀ (M : qI) (x y z : Int32), qFr (qPw i) I M → qW E y_Ro_weigh b_Ro_weigh none 4 0 0 (fun v S' I' J' => v = none ∧ S = S' ∧ qFr (qPw i) I I' ∧ J = J') 0 0 83 [some (.ref (qb E + 94)), some (.ref (qb E + o)), some (.int (nI p)), some (.int x), some (.int y), some (.int z)] [] S M J := by
      intro M x y z hf
      refine inc_6_2 (pc := 83) (w := 1) d_Ro_weigh_83 rfl rfl ?_
      refine r_goto (pc := 86) (tgt := 2) d_Ro_weigh_86 (by decide) ?_
      rw [q1]
      exact qW.forget 3 (qW.forget 4 (qW.forget 5 (ih M hf)))
    have inner := qfor (P := fun d => ∀ (M : qI) (k : Nat) (x : Int32), k ≤ 6 → qFr (qPw i) I M → qW E y_Ro_weigh b_Ro_weigh none 4 0 0 (fun v S' I' J' => v = none ∧ S = S' ∧ qFr (qPw i) I I' ∧ J = J') 0 0 18 [some (.ref (qb E + 94)), some (.ref (qb E + o)), some (.int (nI p)), some (.int x), some (.int (nI k)), some (.int (nI d))] [] S M J) 12 ?_ ?_ 0 (by omega)
    · refine ldi_n_6_2 (pc := 2) d_Ro_weigh_2 ?_
      refine lda_n_6_1 (pc := 3) d_Ro_weigh_3 ?_
      refine g_Ro_60 (pc := 4) rfl d_Ro_weigh_4 (by assumption) ?_
      rw [hf o (hp.nw o (by omega) (by omega)), hc]
      refine r_icmp_ge (pc := 7) (tgt := 89) d_Ro_weigh_7 (by decide) (fun c1 => ?_) (fun c1 => ?_)
      · exact absurd c1 (nI_ge hpc (by omega))
      · refine r_iconst (pc := 10) (v := 0) d_Ro_weigh_10 rfl ?_
        refine sti_n_6_3 (pc := 11) d_Ro_weigh_11 rfl ?_
        refine r_iconst (pc := 12) (v := 0) d_Ro_weigh_12 rfl ?_
        refine sti_6_4 (pc := 13) d_Ro_weigh_13 rfl ?_
        refine r_iconst (pc := 15) (v := 0) d_Ro_weigh_15 rfl ?_
        refine sti_6_5 (pc := 16) d_Ro_weigh_16 rfl ?_
        exact inner M 0 0 (by omega) hf
    · intro M k x hk hf
      refine ldi_6_5 (pc := 18) d_Ro_weigh_18 ?_
      refine r_bipush (pc := 20) (v := 12) d_Ro_weigh_20 rfl ?_
      refine r_icmp_ge (pc := 22) (tgt := 83) d_Ro_weigh_22 (by decide) (fun c1 => ?_) (fun c1 => ?_)
      · exact out M _ _ _ hf
      · exact absurd (by decide) c1
    · intro d hd12 ih2 M k x hk hf
      have okM : qMgOK M o D := hok.fr hf hp.nw
      have hIM : qIsOK M i := hI.of (hf i (hp.iw i (by omega) (by omega))) (hf (i + 3) (hp.iw _ (by omega) (by omega)))
      have hMo4 : M o 4 = nI dd := by rw [hf o (hp.nw o (by omega) (by omega))]; exact hd
      refine ldi_6_5 (pc := 18) d_Ro_weigh_18 ?_
      refine r_bipush (pc := 20) (v := 12) d_Ro_weigh_20 rfl ?_
      refine r_icmp_ge (pc := 22) (tgt := 83) d_Ro_weigh_22 (by decide) (fun c1 => ?_) (fun c1 => ?_)
      · exact absurd (show nI 12 ≤ nI d from c1) (nI_ge hd12 (by omega))
      · refine ldi_6_4 (pc := 25) d_Ro_weigh_25 ?_
        refine r_bipush (pc := 27) (v := 6) d_Ro_weigh_27 rfl ?_
        refine r_icmp_ge (pc := 29) (tgt := 83) d_Ro_weigh_29 (by decide) (fun c2 => ?_) (fun c2 => ?_)
        · exact out M _ _ _ hf
        · have hk6 : k < 6 := by
            rcases Nat.lt_or_ge k 6 with q | q
            · exact q
            · exact absurd (show nI 6 ≤ nI k from nI_le q (by omega)) c2
          have tail : ∀ (M : qI) (k : Nat), k ≤ 6 → qFr (qPw i) I M → qW E y_Ro_weigh b_Ro_weigh none 4 0 0 (fun v S' I' J' => v = none ∧ S = S' ∧ qFr (qPw i) I I' ∧ J = J') 0 0 62 [some (.ref (qb E + 94)), some (.ref (qb E + o)), some (.int (nI p)), some (.int x), some (.int (nI k)), some (.int (nI d))] [] S M J := by
            intro M k hk hf
            have hin : vp_in (nI p) 6 := vp_in_nI (by omega) (by omega)
            have hR : qR S (o + 1) (nI p).toNatClampNeg = some (qm o p) := by rw [qcl (by omega)]; exact hRp p (by omega)
            have hIM : qIsOK M i := hI.of (hf i (hp.iw i (by omega) (by omega))) (hf (i + 3) (hp.iw _ (by omega) (by omega)))
            have hMo4 : M o 4 = nI dd := by rw [hf o (hp.nw o (by omega) (by omega))]; exact hd
            have h1 := qm_lo (o := o) (p := p); have h2 := qm_hi (o := o) (p := p) (by omega)
            refine ldi_n_6_3 (pc := 62) d_Ro_weigh_62 ?_
            refine lda_n_6_1 (pc := 63) d_Ro_weigh_63 ?_
            refine lda_n_6_1 (pc := 64) d_Ro_weigh_64 ?_
            refine g_Ro_75 (pc := 65) rfl d_Ro_weigh_65 (by assumption) (by assumption) ?_
            refine ldi_n_6_2 (pc := 68) d_Ro_weigh_68 ?_
            refine r_aald14 (pc := 69) d_Ro_weigh_69 (by assumption) (hin) (by assumption) ?_
            refine ldi_6_5 (pc := 70) d_Ro_weigh_70 ?_
            refine r_callVN (pc := 72) (As := [.ref (qb E + qm o p), .int (nI d)]) (k := 3) (N := 9) (T := T_Mg) k_Ro_79 im_Mg_painOf se_Mg_painOf rfl (by decide) rfl (by decide) d_Ro_weigh_72 (by assumption) (c_Mg_painOf hM0 hMo (by rcases hp.1 with q | q <;> omega) hIM hMo4 (by omega)) rfl (Nat.le_of_ble_eq_true rfl) (by omega) (by omega) (by omega) (fun v S' I' J' hq => ?_)
            obtain ⟨rfl, rfl, rfl, rfl⟩ := hq
            refine r_iadd (pc := 75) d_Ro_weigh_75 ?_
            refine sti_n_6_3 (pc := 76) d_Ro_weigh_76 rfl ?_
            refine inc_6_5 (pc := 77) (w := 1) d_Ro_weigh_77 rfl rfl ?_
            refine r_goto (pc := 80) (tgt := 18) d_Ro_weigh_80 (by decide) ?_
            rw [q1]
            exact ih2 _ _ _ hk (hf.fil (Or.inr rfl))
          refine lda_n_6_1 (pc := 32) d_Ro_weigh_32 ?_
          refine lda_n_6_1 (pc := 33) d_Ro_weigh_33 ?_
          refine g_Ro_69 (pc := 34) rfl d_Ro_weigh_34 (by assumption) ?_
          refine ldi_6_5 (pc := 37) d_Ro_weigh_37 ?_
          refine r_iadd (pc := 39) d_Ro_weigh_39 ?_
          refine r_callVN (pc := 40) (As := [.int (M o 4 + nI d)]) (k := 3) (N := 9) (T := T_Mg) k_Ro_72 im_Mg_isLost se_Mg_isLost rfl (by decide) rfl (by decide) d_Ro_weigh_40 (by assumption) (c_Mg_isLost hM0) rfl (Nat.le_of_ble_eq_true rfl) (by omega) (by omega) (by omega) (fun v S' I' J' hq => ?_)
          obtain ⟨rfl, rfl, rfl, rfl⟩ := hq
          refine r_if_ne (pc := 43) (tgt := 62) d_Ro_weigh_43 (by decide) (fun c3 => ?_) (fun c3 => ?_)
          · exact tail M k hk hf
          · have e6 : 6 * nI p + nI k = nI (6 * p + k) := by rw [show (6 : Int32) = nI 6 from rfl, pk_mul, nI_add]
            have hin : vp_in (6 * nI p + nI k) 36 := by rw [e6]; exact vp_in_nI (by omega) (by omega)
            refine lda_n_6_0 (pc := 46) d_Ro_weigh_46 ?_
            refine g_Ro_9 (pc := 47) rfl d_Ro_weigh_47 (by assumption) (by assumption) ?_
            refine r_bipush (pc := 50) (v := 6) d_Ro_weigh_50 rfl ?_
            refine ldi_n_6_2 (pc := 52) d_Ro_weigh_52 ?_
            refine r_imul (pc := 53) d_Ro_weigh_53 ?_
            refine ldi_6_4 (pc := 54) d_Ro_weigh_54 ?_
            refine r_iadd (pc := 56) d_Ro_weigh_56 ?_
            refine ldi_n_6_3 (pc := 57) d_Ro_weigh_57 ?_
            refine r_iast (pc := 58) d_Ro_weigh_58 (by assumption) (hin) ?_
            refine inc_6_4 (pc := 59) (w := 1) d_Ro_weigh_59 rfl rfl ?_
            rw [q1]
            exact tail _ (k + 1) (by omega) (hf.up (Or.inl rfl))
theorem c_Ro_start {o i D : Nat} {c : Nat} (hR : isRo S) (hM : isMg S o i) (hok : qMgOK I o D) (hc : I o 1 = nI c) (hc6 : c ≤ 6) (ho : o + 26 < 87) : qMet E y_Ro_start b_Ro_start 3 none 1 0 0 [.ref (qb E + 94), .ref (qb E + o)] S I J (fun v S' I' J' => v = none ∧ S = S' ∧ (∃ z, z ≤ c ∧ I' 94 2 = nI z) ∧ qFr (fun a => a = 94 ∨ a = 96) I I' ∧ (∀ j, j ≠ 2 → I' 94 j = I 94 j) ∧ J = J') := by
  have hM0 := hM
  obtain ⟨rT, rA1, rA2, rA3, rA4, rR0, rR1, rR3, rR4⟩ := hR
  obtain ⟨hT, hA1, hA2, hR0, hR2, hR5, hR6, hR7, hR8, hN1, hN2, hN3, hIs, hRp, hMp⟩ := hM
  refine qMet.of (L := [some (.ref (qb E + 94)), some (.ref (qb E + o)), none]) (by decide +kernel) (Nat.le_of_ble_eq_true rfl) rfl ?_
  refine lda_n_3_0 (pc := 0) d_Ro_start_0 ?_
  refine r_iconst (pc := 1) (v := 0) d_Ro_start_1 rfl ?_
  refine p_Ro_57 (pc := 2) rfl d_Ro_start_2 (by assumption) ?_
  refine r_iconst (pc := 5) (v := 0) d_Ro_start_5 rfl ?_
  refine sti_n_3_2 (pc := 6) d_Ro_start_6 rfl ?_
  have key := qfor (P := fun p => ∀ (M : qI) (z : Nat), z ≤ p → M 94 2 = nI z → qFr (fun a => a = 94 ∨ a = 96) I M → (∀ j, j ≠ 2 → M 94 j = I 94 j) → qW E y_Ro_start b_Ro_start none 1 0 0 (fun v S' I' J' => v = none ∧ S = S' ∧ (∃ z, z ≤ c ∧ I' 94 2 = nI z) ∧ qFr (fun a => a = 94 ∨ a = 96) I I' ∧ (∀ j, j ≠ 2 → I' 94 j = I 94 j) ∧ J = J') 0 0 7 [some (.ref (qb E + 94)), some (.ref (qb E + o)), some (.int (nI p))] [] S M J) c ?_ ?_ 0 (by omega)
  · exact key _ 0 (Nat.le_refl _) (by rw [qup_at]; rfl) (qFr.up (P := fun a => a = 94 ∨ a = 96) qFr.rf (Or.inl rfl)) (fun j hj => qup_j hj)
  · intro M z hz hMz hf hj
    refine ldi_n_3_2 (pc := 7) d_Ro_start_7 ?_
    refine lda_n_3_1 (pc := 8) d_Ro_start_8 ?_
    refine g_Ro_60 (pc := 9) rfl d_Ro_start_9 (by assumption) ?_
    rw [hf o (by omega), hc]
    refine r_icmp_ge (pc := 12) (tgt := 49) d_Ro_start_12 (by decide) (fun c1 => ?_) (fun c1 => ?_)
    · exact r_vret d_Ro_start_49 rfl (by omega) (by omega) (⟨rfl, rfl, ⟨z, hz, hMz⟩, hf, hj, rfl⟩)
    · exact absurd (nI_le (Nat.le_refl _) (by omega)) c1
  · intro p hpc ih M z hz hMz hf hj
    refine ldi_n_3_2 (pc := 7) d_Ro_start_7 ?_
    refine lda_n_3_1 (pc := 8) d_Ro_start_8 ?_
    refine g_Ro_60 (pc := 9) rfl d_Ro_start_9 (by assumption) ?_
    rw [hf o (by omega), hc]
    refine r_icmp_ge (pc := 12) (tgt := 49) d_Ro_start_12 (by decide) (fun c1 => ?_) (fun c1 => ?_)
    · exact absurd c1 (nI_ge hpc (by omega))
    · refine lda_n_3_1 (pc := 15) d_Ro_start_15 ?_
      refine ldi_n_3_2 (pc := 16) d_Ro_start_16 ?_
      refine r_callVN (pc := 17) (As := [.int (nI p)]) (k := 3) (N := 9) (T := T_Mg) k_Ro_65 im_Mg_isLeft se_Mg_isLeft rfl (by decide) rfl (by decide) d_Ro_start_17 (by assumption) (c_Mg_isLeft hM0 (by rw [hf o (by omega)]; exact hc) hc6) rfl (Nat.le_of_ble_eq_true rfl) (by omega) (by omega) (by omega) (fun v S' I' J' hq => ?_)
      obtain ⟨rfl, rfl, rfl, rfl⟩ := hq
      refine r_if_eq (pc := 20) (tgt := 43) d_Ro_start_20 (by decide) (fun c2 => ?_) (fun c2 => ?_)
      · refine inc_3_2 (pc := 43) (w := 1) d_Ro_start_43 rfl rfl ?_
        refine r_goto (pc := 46) (tgt := 7) d_Ro_start_46 (by decide) ?_
        rw [q1]
        exact ih M z (by omega) hMz hf hj
      · have hin : vp_in (nI z) 6 := vp_in_nI (by omega) (by omega)
        refine lda_n_3_0 (pc := 23) d_Ro_start_23 ?_
        refine g_Ro_15 (pc := 24) rfl d_Ro_start_24 (by assumption) (by assumption) ?_
        refine lda_n_3_0 (pc := 27) d_Ro_start_27 ?_
        refine g_Ro_57 (pc := 28) rfl d_Ro_start_28 (by assumption) ?_
        rw [hMz]
        refine ldi_n_3_2 (pc := 31) d_Ro_start_31 ?_
        refine r_iast (pc := 32) d_Ro_start_32 (by assumption) (hin) ?_
        refine lda_n_3_0 (pc := 33) d_Ro_start_33 ?_
        refine r_dup (pc := 34) d_Ro_start_34 rfl ?_
        refine g_Ro_57 (pc := 35) rfl d_Ro_start_35 (by assumption) ?_
        rw [qup_o (show 94 ≠ 96 by decide), hMz]
        refine r_iconst (pc := 38) (v := 1) d_Ro_start_38 rfl ?_
        refine r_iadd (pc := 39) d_Ro_start_39 ?_
        refine p_Ro_57 (pc := 40) rfl d_Ro_start_40 (by assumption) ?_
        refine inc_3_2 (pc := 43) (w := 1) d_Ro_start_43 rfl rfl ?_
        refine r_goto (pc := 46) (tgt := 7) d_Ro_start_46 (by decide) ?_
        rw [q1, q1]
        refine ih _ (z + 1) (by omega) (by rw [qup_at]) ((hf.up (Or.inr rfl)).up (Or.inl rfl)) (fun j h2 => by rw [qup_j h2, qup_o (by decide)]; exact hj j h2)
theorem qlook_z {M : qI} {z : Nat} {q : Int32} (hz : M 94 2 = nI z) : qlook M z q 94 2 = nI z := by
  rw [qlook_j (by decide) (by decide) (by decide) (by decide)]; exact hz
theorem qlook_fr {I M : qI} {z i : Nat} {q : Int32} (h : qFr (qPr i) I M) : qFr (qPr i) I (qlook M z q) := fun a ha => by
  unfold qPr at ha
  rw [qlook_row (by omega) (by omega) (by omega)]; exact h a (by unfold qPr; omega)
theorem qPw_r {i : Nat} : ∀ a, qPw i a → qPr i a := fun a h => by unfold qPw at h; unfold qPr; omega
theorem qst_r {i : Nat} : ∀ a, (a = 94 ∨ a = 96) → qPr i a := fun a h => by unfold qPr; omega
theorem q96_r {i : Nat} : ∀ a, a = 96 → qPr i a := fun a h => by unfold qPr; omega
theorem c_Ro_walk {o i D c : Nat} {q : Int32} (hR : isRo S) (hM : isMg S o i) (hok : qMgOK I o D) (hI : qIsOK I i) (hp : qPos o i) (hD : D < 100000) (hc : I o 1 = nI c) (hc6 : c ≤ 6) : qMet E y_Ro_walk b_Ro_walk 5 none 5 0 0 [.ref (qb E + 94), .ref (qb E + o), .int q] S I J (fun v S' I' J' => v = none ∧ S = S' ∧ qFr (qPr i) I I' ∧ (∃ z, z ≤ c ∧ I' 94 2 = nI z) ∧ (∀ a, a ≠ 94 → J' a = J a) ∧ (c = 0 → ¬ q < 0 → I' 94 5 = 0 ∧ I' 94 6 = 0 ∧ I' 94 7 = 1 ∧ I' 94 8 = 1 ∧ J' 94 9 = 0)) := by
  have hM0 := hM
  have hRo := hR
  obtain ⟨rT, rA1, rA2, rA3, rA4, rR0, rR1, rR3, rR4⟩ := hR
  refine qMet.of (L := [some (.ref (qb E + 94)), some (.ref (qb E + o)), some (.int q), none, none]) (by decide +kernel) (Nat.le_of_ble_eq_true rfl) rfl ?_
  refine lda_n_5_0 (pc := 0) d_Ro_walk_0 ?_
  refine lda_n_5_1 (pc := 1) d_Ro_walk_1 ?_
  refine r_callV (pc := 2) (As := [.ref (qb E + o)]) (k := 6) (N := 10) (T := T_Ro) k_Ro_24 im_Ro_weigh se_Ro_weigh rfl (by decide) rfl (by decide) d_Ro_walk_2 (by assumption) (c_Ro_weigh hRo hM0 hok hI hp hD) rfl (Nat.le_of_ble_eq_true rfl) (by omega) (by omega) (by omega) (fun v S' I' J' hq => ?_)
  obtain ⟨rfl, rfl, f1, rfl⟩ := hq
  refine lda_n_5_0 (pc := 5) d_Ro_walk_5 ?_
  refine lda_n_5_1 (pc := 6) d_Ro_walk_6 ?_
  refine r_callV (pc := 7) (As := [.ref (qb E + o)]) (k := 6) (N := 10) (T := T_Ro) k_Ro_28 im_Ro_start se_Ro_start rfl (by decide) rfl (by decide) d_Ro_walk_7 (by assumption) (c_Ro_start hRo hM0 (hok.fr f1 hp.nw) (by rw [f1 o (hp.nw o (by omega) (by omega))]; exact hc) hc6 hp.2.1) rfl (Nat.le_of_ble_eq_true rfl) (by omega) (by omega) (by omega) (fun v S'' I2 J'' hq => ?_)
  obtain ⟨rfl, rfl, ⟨z, hz, hIz⟩, f2, -, rfl⟩ := hq
  refine lda_n_5_0 (pc := 10) d_Ro_walk_10 ?_
  refine r_ldc (pc := 11) ct_Ro_31 d_Ro_walk_11 ?_
  refine p_Ro_32 (pc := 13) rfl d_Ro_walk_13 (by assumption) ?_
  refine lda_n_5_0 (pc := 16) d_Ro_walk_16 ?_
  refine r_ldc (pc := 17) ct_Ro_31 d_Ro_walk_17 ?_
  refine p_Ro_36 (pc := 19) rfl d_Ro_walk_19 (by assumption) ?_
  refine lda_n_5_0 (pc := 22) d_Ro_walk_22 ?_
  refine r_iconst (pc := 23) (v := 0) d_Ro_walk_23 rfl ?_
  refine p_Ro_39 (pc := 24) rfl d_Ro_walk_24 (by assumption) ?_
  refine lda_n_5_0 (pc := 27) d_Ro_walk_27 ?_
  refine r_iconst (pc := 28) (v := 0) d_Ro_walk_28 rfl ?_
  refine p_Ro_42 (pc := 29) rfl d_Ro_walk_29 (by assumption) ?_
  refine lda_n_5_0 (pc := 32) d_Ro_walk_32 ?_
  refine r_lconst (pc := 33) (v := 0) d_Ro_walk_33 rfl ?_
  refine p_Ro_45 (pc := 34) rfl d_Ro_walk_34 (by assumption) ?_
  refine r_iconst (pc := 37) (v := 1) d_Ro_walk_37 rfl ?_
  refine sti_n_5_3 (pc := 38) d_Ro_walk_38 rfl ?_
  refine r_sipush (pc := 39) (v := 720) d_Ro_walk_39 rfl ?_
  refine sti_5_4 (pc := 42) d_Ro_walk_42 rfl ?_
  have hst : qFr (qPr i) I (qup (qup (qup (qup I2 94 5 2147483647) 94 6 2147483647) 94 7 0) 94 8 0) := ((((f1.mono qPw_r).tr (f2.mono qst_r)).up (by unfold qPr; omega)).up (by unfold qPr; omega)).up (by unfold qPr; omega) |>.up (by unfold qPr; omega)
  have hz0 : (qup (qup (qup (qup I2 94 5 2147483647) 94 6 2147483647) 94 7 0) 94 8 0) 94 2 = nI z := by
    rw [qup_j (by decide), qup_j (by decide), qup_j (by decide), qup_j (by decide)]; exact hIz
  by_cases hc0 : c = 0
  · have ez : z = 0 := by omega
    subst ez
    generalize hM1 : qup (qup (qup (qup I2 94 5 2147483647) 94 6 2147483647) 94 7 0) 94 8 0 = M at hst hz0
    have m5 : M 94 5 = 2147483647 := by rw [← hM1, qup_j (by decide), qup_j (by decide), qup_j (by decide), qup_at]
    have m6 : M 94 6 = 2147483647 := by rw [← hM1, qup_j (by decide), qup_j (by decide), qup_at]
    have m7 : M 94 7 = 0 := by rw [← hM1, qup_j (by decide), qup_at]
    have m8 : M 94 8 = 0 := by rw [← hM1, qup_at]
    refine ldi_5_4 (pc := 44) d_Ro_walk_44 ?_
    refine r_if_le (pc := 46) (tgt := 69) d_Ro_walk_46 (by decide) (fun c1 => ?_) (fun c1 => ?_)
    · exact absurd c1 (by decide)
    · refine ldi_n_5_3 (pc := 49) d_Ro_walk_49 ?_
      refine r_if_eq (pc := 50) (tgt := 69) d_Ro_walk_50 (by decide) (fun c2 => ?_) (fun c2 => ?_)
      · exact absurd c2 (by decide)
      · refine lda_n_5_0 (pc := 53) d_Ro_walk_53 ?_
        refine ldi_n_5_2 (pc := 54) d_Ro_walk_54 ?_
        refine r_callV (pc := 55) (As := [.int q]) (k := 6) (N := 10) (T := T_Ro) k_Ro_49 im_Ro_look se_Ro_look rfl (by decide) rfl (by decide) d_Ro_walk_55 (by assumption) (c_Ro_look hRo hz0 (by decide)) rfl (Nat.le_of_ble_eq_true rfl) (by omega) (by omega) (by omega) (fun v S' I' J' hq => ?_)
        obtain ⟨rfl, rfl, rfl, rfl⟩ := hq
        refine lda_n_5_0 (pc := 58) d_Ro_walk_58 ?_
        refine r_callV (pc := 59) (As := []) (k := 6) (N := 10) (T := T_Ro) k_Ro_53 im_Ro_goToNext se_Ro_goToNext rfl (by decide) rfl (by decide) d_Ro_walk_59 (by assumption) (c_Ro_goToNext hRo (qlook_z hz0) (by decide)) rfl (Nat.le_of_ble_eq_true rfl) (by omega) (by omega) (by omega) (fun v S'' I3 J'' hq => ?_)
        obtain ⟨r, rfl, -, rfl, f3, hz1, rfl⟩ := hq
        obtain ⟨rfl, rfl⟩ := hz1 (by decide)
        refine sti_n_5_3 (pc := 62) d_Ro_walk_62 rfl ?_
        refine inc_5_4 (pc := 63) (w := (-1)) d_Ro_walk_63 rfl rfl ?_
        refine r_goto (pc := 66) (tgt := 44) d_Ro_walk_66 (by decide) ?_
        refine ldi_5_4 (pc := 44) d_Ro_walk_44 ?_
        refine r_if_le (pc := 46) (tgt := 69) d_Ro_walk_46 (by decide) (fun c3 => ?_) (fun c3 => ?_)
        · exact absurd c3 (by decide)
        · refine ldi_n_5_3 (pc := 49) d_Ro_walk_49 ?_
          refine r_if_eq (pc := 50) (tgt := 69) d_Ro_walk_50 (by decide) (fun c4 => ?_) (fun c4 => ?_)
          · have hH : qrowH M 0 = 0 := rfl
            have hX : qrowM M 0 = 0 := rfl
            refine r_vret (pc := 69) d_Ro_walk_69 rfl (by omega) (by omega) ⟨rfl, rfl, qlook_fr hst, ⟨0, by omega, qlook_z hz0⟩, fun a ha => ?_, fun _ hq0 => ?_⟩
            · rw [qup_row ha, qup_row ha]
            · have l1 : qlook1 M 0 q = qup (qup M 94 7 (0 + 1)) 94 8 (0 + 1) := by unfold qlook1; rw [hH, if_neg hq0, m7, m8]
              have l2 : qlook2 M 0 q = qrow (qup (qup (qup M 94 7 (0 + 1)) 94 8 (0 + 1)) 94 5 0) 97 (va_cpy (M 96) (M 97) 0 0 0) := by unfold qlook2; rw [hH, m5, if_neg (by decide), l1]
              have l3 : qlook M 0 q = qrow (qup (qrow (qup (qup (qup M 94 7 (0 + 1)) 94 8 (0 + 1)) 94 5 0) 97 (va_cpy (M 96) (M 97) 0 0 0)) 94 6 0) 98 (va_cpy (M 96) (M 98) 0 0 0) := by unfold qlook; rw [hX, m6, if_neg (by decide), l2]
              rw [l3]
              refine ⟨?_, ?_, ?_, ?_, ?_⟩
              · rw [qrow_ne (by decide), qup_j (by decide), qrow_ne (by decide), qup_at]
              · rw [qrow_ne (by decide), qup_at]
              · rw [qrow_ne (by decide), qup_j (by decide), qrow_ne (by decide), qup_j (by decide), qup_j (by decide), qup_at]; decide
              · rw [qrow_ne (by decide), qup_j (by decide), qrow_ne (by decide), qup_j (by decide), qup_at]; decide
              · rw [qup_at, qup_at]; rfl
          · exact absurd rfl c4
  · have key : ∀ (m : Nat) (M : qI) (N : qJ) (r : Int32), m ≤ 720 → qFr (qPr i) I M → M 94 2 = nI z → (∀ a, a ≠ 94 → N a = J a) → qW E y_Ro_walk b_Ro_walk none 5 0 0 (fun v S' I' J' => v = none ∧ S = S' ∧ qFr (qPr i) I I' ∧ (∃ z, z ≤ c ∧ I' 94 2 = nI z) ∧ (∀ a, a ≠ 94 → J' a = J a) ∧ (c = 0 → ¬ q < 0 → I' 94 5 = 0 ∧ I' 94 6 = 0 ∧ I' 94 7 = 1 ∧ I' 94 8 = 1 ∧ J' 94 9 = 0)) 0 0 44 [some (.ref (qb E + 94)), some (.ref (qb E + o)), some (.int q), some (.int r), some (.int (nI m))] [] S M N := by
      intro m
      induction m with
      | zero =>
        intro M N r _ hf hMz hN
        refine ldi_5_4 (pc := 44) d_Ro_walk_44 ?_
        refine r_if_le (pc := 46) (tgt := 69) d_Ro_walk_46 (by decide) (fun c1 => ?_) (fun c1 => ?_)
        · exact r_vret d_Ro_walk_69 rfl (by omega) (by omega) (⟨rfl, rfl, hf, ⟨z, hz, hMz⟩, hN, fun e => absurd e hc0⟩)
        · exact absurd (by decide) c1
      | succ m ih =>
        intro M N r hm hf hMz hN
        refine ldi_5_4 (pc := 44) d_Ro_walk_44 ?_
        refine r_if_le (pc := 46) (tgt := 69) d_Ro_walk_46 (by decide) (fun c1 => ?_) (fun c1 => ?_)
        · exact absurd c1 (nI_nle (by omega) (by omega))
        · refine ldi_n_5_3 (pc := 49) d_Ro_walk_49 ?_
          refine r_if_eq (pc := 50) (tgt := 69) d_Ro_walk_50 (by decide) (fun c2 => ?_) (fun c2 => ?_)
          · exact r_vret d_Ro_walk_69 rfl (by omega) (by omega) (⟨rfl, rfl, hf, ⟨z, hz, hMz⟩, hN, fun e => absurd e hc0⟩)
          · refine lda_n_5_0 (pc := 53) d_Ro_walk_53 ?_
            refine ldi_n_5_2 (pc := 54) d_Ro_walk_54 ?_
            refine r_callV (pc := 55) (As := [.int q]) (k := 6) (N := 10) (T := T_Ro) k_Ro_49 im_Ro_look se_Ro_look rfl (by decide) rfl (by decide) d_Ro_walk_55 (by assumption) (c_Ro_look hRo hMz (by omega)) rfl (Nat.le_of_ble_eq_true rfl) (by omega) (by omega) (by omega) (fun v S' I' J' hq => ?_)
            obtain ⟨rfl, rfl, rfl, rfl⟩ := hq
            refine lda_n_5_0 (pc := 58) d_Ro_walk_58 ?_
            refine r_callV (pc := 59) (As := []) (k := 6) (N := 10) (T := T_Ro) k_Ro_53 im_Ro_goToNext se_Ro_goToNext rfl (by decide) rfl (by decide) d_Ro_walk_59 (by assumption) (c_Ro_goToNext hRo (qlook_z hMz) (by omega)) rfl (Nat.le_of_ble_eq_true rfl) (by omega) (by omega) (by omega) (fun v S'' I3 J'' hq => ?_)
            obtain ⟨r, rfl, -, rfl, f3, -, rfl⟩ := hq
            refine sti_n_5_3 (pc := 62) d_Ro_walk_62 rfl ?_
            refine inc_5_4 (pc := 63) (w := (-1)) d_Ro_walk_63 rfl rfl ?_
            refine r_goto (pc := 66) (tgt := 44) d_Ro_walk_66 (by decide) ?_
            rw [pk_m1]
            refine ih _ _ _ (by omega) ((qlook_fr hf).tr (f3.mono q96_r)) ?_ (fun a ha => by rw [qup_row ha]; exact hN a ha)
            rw [f3 94 (by decide)]; exact qlook_z hMz
    exact key 720 _ _ _ (Nat.le_refl _) hst hz0 (fun a ha => qup_row ha)
theorem c_Ro_agree {a b : Nat} (hR : isRo S) (ha : a < 6) (hb : b < 6) : qMet E y_Ro_agree b_Ro_agree 5 (some .boolean) 1 0 0 [.ref (qb E + 94), .int (nI a), .int (nI b)] S I J (fun v S' I' J' => ∃ r, v = some (.int r) ∧ S = S' ∧ I = I' ∧ J = J') := by
  have hR0' := hR
  obtain ⟨hT, hA1, hA2, hA3, hA4, hR0, hR1, hR3, hR4⟩ := hR
  have h1 : vp_in (nI a) 6 := vp_in_nI ha (by omega)
  have h2 : vp_in (nI b) 6 := vp_in_nI hb (by omega)
  refine qMet.of (L := [some (.ref (qb E + 94)), some (.int (nI a)), some (.int (nI b)), none, none]) (by decide +kernel) (Nat.le_of_ble_eq_true rfl) rfl ?_
  refine lda_n_5_0 (pc := 0) d_Ro_agree_0 ?_
  refine lda_n_5_0 (pc := 1) d_Ro_agree_1 ?_
  refine g_Ro_15 (pc := 2) rfl d_Ro_agree_2 (by assumption) (by assumption) ?_
  refine ldi_n_5_1 (pc := 5) d_Ro_agree_5 ?_
  refine r_iald (pc := 6) d_Ro_agree_6 (by assumption) (h1) ?_
  refine ldi_n_5_2 (pc := 7) d_Ro_agree_7 ?_
  rw [qcl (by omega)]
  refine r_callV (pc := 8) (As := [.int (I 96 a), .int (nI b)]) (k := 6) (N := 10) (T := T_Ro) k_Ro_83 im_Ro_hurtsAt se_Ro_hurtsAt rfl (by decide) rfl (by decide) d_Ro_agree_8 (by assumption) (c_Ro_hurtsAt hR0') rfl (Nat.le_of_ble_eq_true rfl) (by omega) (by omega) (by omega) (fun v S' I' J' hq => ?_)
  obtain ⟨rfl, rfl, rfl, rfl⟩ := hq
  refine lda_n_5_0 (pc := 11) d_Ro_agree_11 ?_
  refine lda_n_5_0 (pc := 12) d_Ro_agree_12 ?_
  refine g_Ro_15 (pc := 13) rfl d_Ro_agree_13 (by assumption) (by assumption) ?_
  refine ldi_n_5_1 (pc := 16) d_Ro_agree_16 ?_
  refine r_iald (pc := 17) d_Ro_agree_17 (by assumption) (h1) ?_
  refine ldi_n_5_1 (pc := 18) d_Ro_agree_18 ?_
  rw [qcl (by omega)]
  refine r_callV (pc := 19) (As := [.int (I 96 a), .int (nI a)]) (k := 6) (N := 10) (T := T_Ro) k_Ro_83 im_Ro_hurtsAt se_Ro_hurtsAt rfl (by decide) rfl (by decide) d_Ro_agree_19 (by assumption) (c_Ro_hurtsAt hR0') rfl (Nat.le_of_ble_eq_true rfl) (by omega) (by omega) (by omega) (fun v S' I' J' hq => ?_)
  obtain ⟨rfl, rfl, rfl, rfl⟩ := hq
  refine r_isub (pc := 22) d_Ro_agree_22 ?_
  refine sti_n_5_3 (pc := 23) d_Ro_agree_23 rfl ?_
  refine lda_n_5_0 (pc := 24) d_Ro_agree_24 ?_
  refine lda_n_5_0 (pc := 25) d_Ro_agree_25 ?_
  refine g_Ro_15 (pc := 26) rfl d_Ro_agree_26 (by assumption) (by assumption) ?_
  refine ldi_n_5_2 (pc := 29) d_Ro_agree_29 ?_
  refine r_iald (pc := 30) d_Ro_agree_30 (by assumption) (h2) ?_
  refine ldi_n_5_1 (pc := 31) d_Ro_agree_31 ?_
  rw [qcl (by omega)]
  refine r_callV (pc := 32) (As := [.int (I 96 b), .int (nI a)]) (k := 6) (N := 10) (T := T_Ro) k_Ro_83 im_Ro_hurtsAt se_Ro_hurtsAt rfl (by decide) rfl (by decide) d_Ro_agree_32 (by assumption) (c_Ro_hurtsAt hR0') rfl (Nat.le_of_ble_eq_true rfl) (by omega) (by omega) (by omega) (fun v S' I' J' hq => ?_)
  obtain ⟨rfl, rfl, rfl, rfl⟩ := hq
  refine lda_n_5_0 (pc := 35) d_Ro_agree_35 ?_
  refine lda_n_5_0 (pc := 36) d_Ro_agree_36 ?_
  refine g_Ro_15 (pc := 37) rfl d_Ro_agree_37 (by assumption) (by assumption) ?_
  refine ldi_n_5_2 (pc := 40) d_Ro_agree_40 ?_
  refine r_iald (pc := 41) d_Ro_agree_41 (by assumption) (h2) ?_
  refine ldi_n_5_2 (pc := 42) d_Ro_agree_42 ?_
  rw [qcl (by omega)]
  refine r_callV (pc := 43) (As := [.int (I 96 b), .int (nI b)]) (k := 6) (N := 10) (T := T_Ro) k_Ro_83 im_Ro_hurtsAt se_Ro_hurtsAt rfl (by decide) rfl (by decide) d_Ro_agree_43 (by assumption) (c_Ro_hurtsAt hR0') rfl (Nat.le_of_ble_eq_true rfl) (by omega) (by omega) (by omega) (fun v S' I' J' hq => ?_)
  obtain ⟨rfl, rfl, rfl, rfl⟩ := hq
  refine r_isub (pc := 46) d_Ro_agree_46 ?_
  refine sti_5_4 (pc := 47) d_Ro_agree_47 rfl ?_
  refine ldi_n_5_3 (pc := 49) d_Ro_agree_49 ?_
  refine r_if_gt (pc := 50) (tgt := 71) d_Ro_agree_50 (by decide) (fun c50 => ?_) (fun c50 => ?_)
  · refine r_iconst (pc := 71) (v := 0) d_Ro_agree_71 rfl ?_
    refine r_nret d_Ro_agree_72 rfl (qbool_n (by first | exact Or.inl rfl | exact Or.inr rfl | assumption | exact qwithin_b | exact qbit_b)) (by omega) (by omega) ?_
    exact ⟨_, rfl, rfl, rfl, rfl⟩
  · refine ldi_5_4 (pc := 53) d_Ro_agree_53 ?_
    refine r_if_gt (pc := 55) (tgt := 71) d_Ro_agree_55 (by decide) (fun c55 => ?_) (fun c55 => ?_)
    · refine r_iconst (pc := 71) (v := 0) d_Ro_agree_71 rfl ?_
      refine r_nret d_Ro_agree_72 rfl (qbool_n (by first | exact Or.inl rfl | exact Or.inr rfl | assumption | exact qwithin_b | exact qbit_b)) (by omega) (by omega) ?_
      exact ⟨_, rfl, rfl, rfl, rfl⟩
    · refine ldi_n_5_3 (pc := 58) d_Ro_agree_58 ?_
      refine r_if_lt (pc := 59) (tgt := 67) d_Ro_agree_59 (by decide) (fun c59 => ?_) (fun c59 => ?_)
      · refine r_iconst (pc := 67) (v := 1) d_Ro_agree_67 rfl ?_
        refine r_goto (pc := 68) (tgt := 72) d_Ro_agree_68 (by decide) ?_
        refine r_nret d_Ro_agree_72 rfl (qbool_n (by first | exact Or.inl rfl | exact Or.inr rfl | assumption | exact qwithin_b | exact qbit_b)) (by omega) (by omega) ?_
        exact ⟨_, rfl, rfl, rfl, rfl⟩
      · refine ldi_5_4 (pc := 62) d_Ro_agree_62 ?_
        refine r_if_ge (pc := 64) (tgt := 71) d_Ro_agree_64 (by decide) (fun c64 => ?_) (fun c64 => ?_)
        · refine r_iconst (pc := 71) (v := 0) d_Ro_agree_71 rfl ?_
          refine r_nret d_Ro_agree_72 rfl (qbool_n (by first | exact Or.inl rfl | exact Or.inr rfl | assumption | exact qwithin_b | exact qbit_b)) (by omega) (by omega) ?_
          exact ⟨_, rfl, rfl, rfl, rfl⟩
        · refine r_iconst (pc := 67) (v := 1) d_Ro_agree_67 rfl ?_
          refine r_goto (pc := 68) (tgt := 72) d_Ro_agree_68 (by decide) ?_
          refine r_nret d_Ro_agree_72 rfl (qbool_n (by first | exact Or.inl rfl | exact Or.inr rfl | assumption | exact qwithin_b | exact qbit_b)) (by omega) (by omega) ?_
          exact ⟨_, rfl, rfl, rfl, rfl⟩
theorem c_Ro_agreed {o i D l : Nat} (hR : isRo S) (hM : isMg S o i) (hok : qMgOK I o D) (hI : qIsOK I i) (hp : qPos o i) (hD : D < 100000) (hl : I o 3 = nI l) (hl6 : l ≤ 6) : qMet E y_Ro_agreed b_Ro_agreed 4 (some .int) 5 0 0 [.ref (qb E + 94), .ref (qb E + o)] S I J (fun v S' I' J' => ∃ r, v = some (.int r) ∧ S = S' ∧ qFr (qPr i) I I' ∧ J = J' ∧ (l = 0 → r = -5)) := by
  have hM0 := hM
  have hRo := hR
  obtain ⟨rT, rA1, rA2, rA3, rA4, rR0, rR1, rR3, rR4⟩ := hR
  obtain ⟨hT, hA1, hA2, hR0, hR2, hR5, hR6, hR7, hR8, hN1, hN2, hN3, hIs, hRp, hMp⟩ := hM
  obtain ⟨c, hc6, hc⟩ := hok.1
  refine qMet.of (L := [some (.ref (qb E + 94)), some (.ref (qb E + o)), none, none]) (by decide +kernel) (Nat.le_of_ble_eq_true rfl) rfl ?_
  refine lda_n_4_0 (pc := 0) d_Ro_agreed_0 ?_
  refine lda_n_4_1 (pc := 1) d_Ro_agreed_1 ?_
  refine r_callV (pc := 2) (As := [.ref (qb E + o)]) (k := 6) (N := 10) (T := T_Ro) k_Ro_24 im_Ro_weigh se_Ro_weigh rfl (by decide) rfl (by decide) d_Ro_agreed_2 (by assumption) (c_Ro_weigh hRo hM0 hok hI hp hD) rfl (Nat.le_of_ble_eq_true rfl) (by omega) (by omega) (by omega) (fun v S' I' J' hq => ?_)
  obtain ⟨rfl, rfl, f1, rfl⟩ := hq
  refine lda_n_4_0 (pc := 5) d_Ro_agreed_5 ?_
  refine r_iconst (pc := 6) (v := 0) d_Ro_agreed_6 rfl ?_
  refine p_Ro_57 (pc := 7) rfl d_Ro_agreed_7 (by assumption) ?_
  refine r_iconst (pc := 10) (v := 0) d_Ro_agreed_10 rfl ?_
  refine sti_n_4_2 (pc := 11) d_Ro_agreed_11 rfl ?_
  have f1' := f1.mono (qPw_r)
  -- the second half: two places
  have find : ∀ (M : qI) (z : Nat), z ≤ l → M 94 2 = nI z → qFr (qPr i) I M → qW E y_Ro_agreed b_Ro_agreed (some .int) 5 0 0 (fun v S' I' J' => ∃ r, v = some (.int r) ∧ S = S' ∧ qFr (qPr i) I I' ∧ J = J' ∧ (l = 0 → r = -5)) 0 0 64 [some (.ref (qb E + 94)), some (.ref (qb E + o)), none, none] [] S M J := by
    intro M z hz hMz hf
    refine r_iconst (pc := 64) (v := 0) d_Ro_agreed_64 rfl ?_
    refine sti_n_4_2 (pc := 65) d_Ro_agreed_65 rfl ?_
    have key := qfor (P := fun k => qW E y_Ro_agreed b_Ro_agreed (some .int) 5 0 0 (fun v S' I' J' => ∃ r, v = some (.int r) ∧ S = S' ∧ qFr (qPr i) I I' ∧ J = J' ∧ (l = 0 → r = -5)) 0 0 66 [some (.ref (qb E + 94)), some (.ref (qb E + o)), some (.int (nI k)), none] [] S M J) z ?_ ?_ 0 (by omega)
    · exact key
    · refine ldi_n_4_2 (pc := 66) d_Ro_agreed_66 ?_
      refine lda_n_4_0 (pc := 67) d_Ro_agreed_67 ?_
      refine g_Ro_57 (pc := 68) rfl d_Ro_agreed_68 (by assumption) ?_
      rw [hMz]
      refine r_icmp_ge (pc := 71) (tgt := 142) d_Ro_agreed_71 (by decide) (fun c1 => ?_) (fun c1 => ?_)
      · refine r_bipush (pc := 142) (v := (-5)) d_Ro_agreed_142 rfl ?_
        exact r_iret d_Ro_agreed_144 rfl (by omega) (by omega) (⟨-5, rfl, rfl, hf, rfl, fun _ => rfl⟩)
      · exact absurd (nI_le (Nat.le_refl _) (by omega)) c1
    · intro k hk ih
      refine ldi_n_4_2 (pc := 66) d_Ro_agreed_66 ?_
      refine lda_n_4_0 (pc := 67) d_Ro_agreed_67 ?_
      refine g_Ro_57 (pc := 68) rfl d_Ro_agreed_68 (by assumption) ?_
      rw [hMz]
      refine r_icmp_ge (pc := 71) (tgt := 142) d_Ro_agreed_71 (by decide) (fun c1 => ?_) (fun c1 => ?_)
      · exact absurd c1 (nI_ge hk (by omega))
      · refine ldi_n_4_2 (pc := 74) d_Ro_agreed_74 ?_
        refine r_iconst (pc := 75) (v := 1) d_Ro_agreed_75 rfl ?_
        refine r_iadd (pc := 76) d_Ro_agreed_76 ?_
        refine sti_n_4_3 (pc := 77) d_Ro_agreed_77 rfl ?_
        rw [q1]
        have inner := qfor (P := fun k2 => k < k2 → qW E y_Ro_agreed b_Ro_agreed (some .int) 5 0 0 (fun v S' I' J' => ∃ r, v = some (.int r) ∧ S = S' ∧ qFr (qPr i) I I' ∧ J = J' ∧ (l = 0 → r = -5)) 0 0 78 [some (.ref (qb E + 94)), some (.ref (qb E + o)), some (.int (nI k)), some (.int (nI k2))] [] S M J) z ?_ ?_ (k + 1) (by omega)
        · exact inner (Nat.lt_succ_self k)
        · intro _
          refine ldi_n_4_3 (pc := 78) d_Ro_agreed_78 ?_
          refine lda_n_4_0 (pc := 79) d_Ro_agreed_79 ?_
          refine g_Ro_57 (pc := 80) rfl d_Ro_agreed_80 (by assumption) ?_
          rw [hMz]
          refine r_icmp_ge (pc := 83) (tgt := 136) d_Ro_agreed_83 (by decide) (fun c2 => ?_) (fun c2 => ?_)
          · refine inc_4_2 (pc := 136) (w := 1) d_Ro_agreed_136 rfl rfl ?_
            refine r_goto (pc := 139) (tgt := 66) d_Ro_agreed_139 (by decide) ?_
            rw [q1]
            exact qW.forget 3 ih
          · exact absurd (nI_le (Nat.le_refl _) (by omega)) c2
        · intro k2 hk2 ih2 hlt
          have i1 : vp_in (nI k) 6 := vp_in_nI (by omega) (by omega)
          have i2 : vp_in (nI k2) 6 := vp_in_nI (by omega) (by omega)
          refine ldi_n_4_3 (pc := 78) d_Ro_agreed_78 ?_
          refine lda_n_4_0 (pc := 79) d_Ro_agreed_79 ?_
          refine g_Ro_57 (pc := 80) rfl d_Ro_agreed_80 (by assumption) ?_
          rw [hMz]
          refine r_icmp_ge (pc := 83) (tgt := 136) d_Ro_agreed_83 (by decide) (fun c2 => ?_) (fun c2 => ?_)
          · exact absurd c2 (nI_ge hk2 (by omega))
          · refine lda_n_4_0 (pc := 86) d_Ro_agreed_86 ?_
            refine ldi_n_4_2 (pc := 87) d_Ro_agreed_87 ?_
            refine ldi_n_4_3 (pc := 88) d_Ro_agreed_88 ?_
            refine r_callV (pc := 89) (As := [.int (nI k), .int (nI k2)]) (k := 6) (N := 10) (T := T_Ro) k_Ro_108 im_Ro_agree se_Ro_agree rfl (by decide) rfl (by decide) d_Ro_agreed_89 (by assumption) (c_Ro_agree hRo (by omega) (by omega)) rfl (Nat.le_of_ble_eq_true rfl) (by omega) (by omega) (by omega) (fun v S' I' J' hq => ?_)
            obtain ⟨r, rfl, rfl, rfl, rfl⟩ := hq
            refine r_if_eq (pc := 92) (tgt := 130) d_Ro_agreed_92 (by decide) (fun c3 => ?_) (fun c3 => ?_)
            · refine inc_4_3 (pc := 130) (w := 1) d_Ro_agreed_130 rfl rfl ?_
              refine r_goto (pc := 133) (tgt := 78) d_Ro_agreed_133 (by decide) ?_
              rw [q1]
              exact ih2 (by omega)
            · refine r_bipush (pc := 95) (v := 10) d_Ro_agreed_95 rfl ?_
              refine lda_n_4_0 (pc := 97) d_Ro_agreed_97 ?_
              refine g_Ro_15 (pc := 98) rfl d_Ro_agreed_98 (by assumption) (by assumption) ?_
              refine ldi_n_4_2 (pc := 101) d_Ro_agreed_101 ?_
              refine r_iald (pc := 102) d_Ro_agreed_102 (by assumption) (i1) ?_
              refine lda_n_4_0 (pc := 103) d_Ro_agreed_103 ?_
              refine g_Ro_15 (pc := 104) rfl d_Ro_agreed_104 (by assumption) (by assumption) ?_
              refine ldi_n_4_3 (pc := 107) d_Ro_agreed_107 ?_
              refine r_iald (pc := 108) d_Ro_agreed_108 (by assumption) (i2) ?_
              refine r_callS (pc := 109) (As := [.int (M 96 (nI k).toNatClampNeg), .int (M 96 (nI k2).toNatClampNeg)]) k_Ro_112 sw_jM_min rfl (by decide) d_Ro_agreed_109 (c_min _ _) rfl (Nat.le_of_ble_eq_true rfl) (by omega) (by omega) (by omega) (fun v S' I' J' hq => ?_)
              obtain ⟨rfl, rfl, rfl, rfl⟩ := hq
              refine r_imul (pc := 112) d_Ro_agreed_112 ?_
              refine lda_n_4_0 (pc := 113) d_Ro_agreed_113 ?_
              refine g_Ro_15 (pc := 114) rfl d_Ro_agreed_114 (by assumption) (by assumption) ?_
              refine ldi_n_4_2 (pc := 117) d_Ro_agreed_117 ?_
              refine r_iald (pc := 118) d_Ro_agreed_118 (by assumption) (i1) ?_
              refine lda_n_4_0 (pc := 119) d_Ro_agreed_119 ?_
              refine g_Ro_15 (pc := 120) rfl d_Ro_agreed_120 (by assumption) (by assumption) ?_
              refine ldi_n_4_3 (pc := 123) d_Ro_agreed_123 ?_
              refine r_iald (pc := 124) d_Ro_agreed_124 (by assumption) (i2) ?_
              refine r_callS (pc := 125) (As := [.int (M 96 (nI k).toNatClampNeg), .int (M 96 (nI k2).toNatClampNeg)]) k_Ro_87 sw_jM_max rfl (by decide) d_Ro_agreed_125 (c_max _ _) rfl (Nat.le_of_ble_eq_true rfl) (by omega) (by omega) (by omega) (fun v S' I' J' hq => ?_)
              obtain ⟨rfl, rfl, rfl, rfl⟩ := hq
              refine r_iadd (pc := 128) d_Ro_agreed_128 ?_
              exact r_iret d_Ro_agreed_129 rfl (by omega) (by omega) (⟨_, rfl, rfl, hf, rfl, fun e => by omega⟩)
  have key := qfor (P := fun k => ∀ (M : qI) (z : Nat), z ≤ k → M 94 2 = nI z → qFr (qPr i) I M → qW E y_Ro_agreed b_Ro_agreed (some .int) 5 0 0 (fun v S' I' J' => ∃ r, v = some (.int r) ∧ S = S' ∧ qFr (qPr i) I I' ∧ J = J' ∧ (l = 0 → r = -5)) 0 0 12 [some (.ref (qb E + 94)), some (.ref (qb E + o)), some (.int (nI k)), none] [] S M J) l ?_ ?_ 0 (by omega)
  · exact key _ 0 (Nat.le_refl _) (by rw [qup_at]; rfl) (f1'.up (by unfold qPr; omega))
  · intro M z hz hMz hf
    refine ldi_n_4_2 (pc := 12) d_Ro_agreed_12 ?_
    refine lda_n_4_1 (pc := 13) d_Ro_agreed_13 ?_
    refine g_Ro_102 (pc := 14) rfl d_Ro_agreed_14 (by assumption) ?_
    rw [hf o (hp.nr o (by omega) (by omega)), hl]
    refine r_icmp_ge (pc := 17) (tgt := 64) d_Ro_agreed_17 (by decide) (fun c1 => ?_) (fun c1 => ?_)
    · exact qW.forget 2 (find M z hz hMz hf)
    · exact absurd (nI_le (Nat.le_refl _) (by omega)) c1
  · intro k hk ih M z hz hMz hf
    have i1 : vp_in (nI k) 6 := vp_in_nI (by omega) (by omega)
    have i2 : vp_in (nI z) 6 := vp_in_nI (by omega) (by omega)
    refine ldi_n_4_2 (pc := 12) d_Ro_agreed_12 ?_
    refine lda_n_4_1 (pc := 13) d_Ro_agreed_13 ?_
    refine g_Ro_102 (pc := 14) rfl d_Ro_agreed_14 (by assumption) ?_
    rw [hf o (hp.nr o (by omega) (by omega)), hl]
    refine r_icmp_ge (pc := 17) (tgt := 64) d_Ro_agreed_17 (by decide) (fun c1 => ?_) (fun c1 => ?_)
    · exact absurd c1 (nI_ge hk (by omega))
    · refine lda_n_4_1 (pc := 20) d_Ro_agreed_20 ?_
      refine lda_n_4_1 (pc := 21) d_Ro_agreed_21 ?_
      refine g_Ro_105 (pc := 22) rfl d_Ro_agreed_22 (by assumption) (by assumption) ?_
      refine ldi_n_4_2 (pc := 25) d_Ro_agreed_25 ?_
      refine r_iald (pc := 26) d_Ro_agreed_26 (by assumption) (i1) ?_
      refine r_callVN (pc := 27) (As := [.int (M (o + 2) (nI k).toNatClampNeg)]) (k := 3) (N := 9) (T := T_Mg) k_Ro_65 im_Mg_isLeft se_Mg_isLeft rfl (by decide) rfl (by decide) d_Ro_agreed_27 (by assumption) (c_Mg_isLeft hM0 (by rw [hf o (hp.nr o (by omega) (by omega))]; exact hc) hc6) rfl (Nat.le_of_ble_eq_true rfl) (by omega) (by omega) (by omega) (fun v S' I' J' hq => ?_)
      obtain ⟨rfl, rfl, rfl, rfl⟩ := hq
      refine r_if_eq (pc := 30) (tgt := 58) d_Ro_agreed_30 (by decide) (fun c2 => ?_) (fun c2 => ?_)
      · refine inc_4_2 (pc := 58) (w := 1) d_Ro_agreed_58 rfl rfl ?_
        refine r_goto (pc := 61) (tgt := 12) d_Ro_agreed_61 (by decide) ?_
        rw [q1]
        exact ih M z (by omega) hMz hf
      · refine lda_n_4_0 (pc := 33) d_Ro_agreed_33 ?_
        refine g_Ro_15 (pc := 34) rfl d_Ro_agreed_34 (by assumption) (by assumption) ?_
        refine lda_n_4_0 (pc := 37) d_Ro_agreed_37 ?_
        refine g_Ro_57 (pc := 38) rfl d_Ro_agreed_38 (by assumption) ?_
        rw [hMz]
        refine lda_n_4_1 (pc := 41) d_Ro_agreed_41 ?_
        refine g_Ro_105 (pc := 42) rfl d_Ro_agreed_42 (by assumption) (by assumption) ?_
        refine ldi_n_4_2 (pc := 45) d_Ro_agreed_45 ?_
        refine r_iald (pc := 46) d_Ro_agreed_46 (by assumption) (i1) ?_
        refine r_iast (pc := 47) d_Ro_agreed_47 (by assumption) (i2) ?_
        refine lda_n_4_0 (pc := 48) d_Ro_agreed_48 ?_
        refine r_dup (pc := 49) d_Ro_agreed_49 rfl ?_
        refine g_Ro_57 (pc := 50) rfl d_Ro_agreed_50 (by assumption) ?_
        rw [qup_o (show 94 ≠ 96 by decide), hMz]
        refine r_iconst (pc := 53) (v := 1) d_Ro_agreed_53 rfl ?_
        refine r_iadd (pc := 54) d_Ro_agreed_54 ?_
        refine p_Ro_57 (pc := 55) rfl d_Ro_agreed_55 (by assumption) ?_
        refine inc_4_2 (pc := 58) (w := 1) d_Ro_agreed_58 rfl rfl ?_
        refine r_goto (pc := 61) (tgt := 12) d_Ro_agreed_61 (by decide) ?_
        rw [q1, q1]
        exact ih _ (z + 1) (by omega) (by rw [qup_at]) ((hf.up (by unfold qPr; omega)).up (by unfold qPr; omega))
theorem c_Ro_dear {o i D c : Nat} {w : Int32} (hR : isRo S) (hM : isMg S o i) (hok : qMgOK I o D) (hI : qIsOK I i) (hp : qPos o i) (hD : D < 100000) (hc : I o 1 = nI c) (hc6 : c ≤ 6) : qMet E y_Ro_dear b_Ro_dear 7 (some .int) 5 0 0 [.ref (qb E + 94), .ref (qb E + o), .int w] S I J (fun v S' I' J' => ∃ r, v = some (.int r) ∧ S = S' ∧ qFr (qPr i) I I' ∧ J = J' ∧ (c = 0 → r = -5)) := by
  have hM0 := hM
  have hRo := hR
  obtain ⟨rT, rA1, rA2, rA3, rA4, rR0, rR1, rR3, rR4⟩ := hR
  refine qMet.of (L := [some (.ref (qb E + 94)), some (.ref (qb E + o)), some (.int w), none, none, none, none]) (by decide +kernel) (Nat.le_of_ble_eq_true rfl) rfl ?_
  refine lda_n_7_0 (pc := 0) d_Ro_dear_0 ?_
  refine lda_n_7_1 (pc := 1) d_Ro_dear_1 ?_
  refine r_callV (pc := 2) (As := [.ref (qb E + o)]) (k := 6) (N := 10) (T := T_Ro) k_Ro_24 im_Ro_weigh se_Ro_weigh rfl (by decide) rfl (by decide) d_Ro_dear_2 (by assumption) (c_Ro_weigh hRo hM0 hok hI hp hD) rfl (Nat.le_of_ble_eq_true rfl) (by omega) (by omega) (by omega) (fun v S' I' J' hq => ?_)
  obtain ⟨rfl, rfl, f1, rfl⟩ := hq
  refine lda_n_7_0 (pc := 5) d_Ro_dear_5 ?_
  refine lda_n_7_1 (pc := 6) d_Ro_dear_6 ?_
  refine r_callV (pc := 7) (As := [.ref (qb E + o)]) (k := 6) (N := 10) (T := T_Ro) k_Ro_28 im_Ro_start se_Ro_start rfl (by decide) rfl (by decide) d_Ro_dear_7 (by assumption) (c_Ro_start hRo hM0 (hok.fr f1 hp.nw) (by rw [f1 o (hp.nw o (by omega) (by omega))]; exact hc) hc6 hp.2.1) rfl (Nat.le_of_ble_eq_true rfl) (by omega) (by omega) (by omega) (fun v S'' I2 J'' hq => ?_)
  obtain ⟨rfl, rfl, ⟨z, hz, hIz⟩, f2, -, rfl⟩ := hq
  refine r_bipush (pc := 10) (v := (-5)) d_Ro_dear_10 rfl ?_
  refine sti_n_7_3 (pc := 12) d_Ro_dear_12 rfl ?_
  refine r_bipush (pc := 13) (v := (-5)) d_Ro_dear_13 rfl ?_
  refine sti_7_4 (pc := 15) d_Ro_dear_15 rfl ?_
  refine r_iconst (pc := 17) (v := 0) d_Ro_dear_17 rfl ?_
  refine sti_7_5 (pc := 18) d_Ro_dear_18 rfl ?_
  have hf : qFr (qPr i) I I2 := (f1.mono qPw_r).tr (f2.mono qst_r)
  have key := qfor (P := fun k => ∀ (x y : Int32), (k = 0 → x = -5 ∧ y = -5) → qW E y_Ro_dear b_Ro_dear (some .int) 5 0 0 (fun v S' I' J' => ∃ r, v = some (.int r) ∧ S = S' ∧ qFr (qPr i) I I' ∧ J = J' ∧ (c = 0 → r = -5)) 0 0 20 [some (.ref (qb E + 94)), some (.ref (qb E + o)), some (.int w), some (.int x), some (.int y), some (.int (nI k)), none] [] S I2 J) z ?_ ?_ 0 (by omega)
  · exact key _ _ (fun _ => ⟨rfl, rfl⟩)
  · intro x y hxy
    refine ldi_7_5 (pc := 20) d_Ro_dear_20 ?_
    refine lda_n_7_0 (pc := 22) d_Ro_dear_22 ?_
    refine g_Ro_57 (pc := 23) rfl d_Ro_dear_23 (by assumption) ?_
    rw [hIz]
    refine r_icmp_ge (pc := 26) (tgt := 86) d_Ro_dear_26 (by decide) (fun c1 => ?_) (fun c1 => ?_)
    · refine ldi_n_7_2 (pc := 86) d_Ro_dear_86 ?_
      refine r_if_eq (pc := 87) (tgt := 95) d_Ro_dear_87 (by decide) (fun c2 => ?_) (fun c2 => ?_)
      · refine ldi_n_7_3 (pc := 95) d_Ro_dear_95 ?_
        exact r_iret d_Ro_dear_96 rfl (by omega) (by omega) (⟨_, rfl, rfl, hf, rfl, fun e => (hxy (by omega)).1⟩)
      · refine ldi_7_4 (pc := 90) d_Ro_dear_90 ?_
        refine r_goto (pc := 92) (tgt := 96) d_Ro_dear_92 (by decide) ?_
        exact r_iret d_Ro_dear_96 rfl (by omega) (by omega) (⟨_, rfl, rfl, hf, rfl, fun e => (hxy (by omega)).2⟩)
    · exact absurd (nI_le (Nat.le_refl _) (by omega)) c1
  · intro k hk ih x y hxy
    have i1 : vp_in (nI k) 6 := vp_in_nI (by omega) (by omega)
    refine ldi_7_5 (pc := 20) d_Ro_dear_20 ?_
    refine lda_n_7_0 (pc := 22) d_Ro_dear_22 ?_
    refine g_Ro_57 (pc := 23) rfl d_Ro_dear_23 (by assumption) ?_
    rw [hIz]
    refine r_icmp_ge (pc := 26) (tgt := 86) d_Ro_dear_26 (by decide) (fun c1 => ?_) (fun c1 => ?_)
    · exact absurd c1 (nI_ge hk (by omega))
    · refine lda_n_7_0 (pc := 29) d_Ro_dear_29 ?_
      refine lda_n_7_0 (pc := 30) d_Ro_dear_30 ?_
      refine g_Ro_15 (pc := 31) rfl d_Ro_dear_31 (by assumption) (by assumption) ?_
      refine ldi_7_5 (pc := 34) d_Ro_dear_34 ?_
      refine r_iald (pc := 36) d_Ro_dear_36 (by assumption) (i1) ?_
      refine lda_n_7_0 (pc := 37) d_Ro_dear_37 ?_
      refine g_Ro_57 (pc := 38) rfl d_Ro_dear_38 (by assumption) ?_
      refine r_iconst (pc := 41) (v := 1) d_Ro_dear_41 rfl ?_
      refine r_isub (pc := 42) d_Ro_dear_42 ?_
      refine r_callV (pc := 43) (As := [.int (I2 96 (nI k).toNatClampNeg), .int (I2 94 2 - 1)]) (k := 6) (N := 10) (T := T_Ro) k_Ro_83 im_Ro_hurtsAt se_Ro_hurtsAt rfl (by decide) rfl (by decide) d_Ro_dear_43 (by assumption) (c_Ro_hurtsAt hRo) rfl (Nat.le_of_ble_eq_true rfl) (by omega) (by omega) (by omega) (fun v S' I' J' hq => ?_)
      obtain ⟨rfl, rfl, rfl, rfl⟩ := hq
      refine lda_n_7_0 (pc := 46) d_Ro_dear_46 ?_
      refine lda_n_7_0 (pc := 47) d_Ro_dear_47 ?_
      refine g_Ro_15 (pc := 48) rfl d_Ro_dear_48 (by assumption) (by assumption) ?_
      refine ldi_7_5 (pc := 51) d_Ro_dear_51 ?_
      refine r_iald (pc := 53) d_Ro_dear_53 (by assumption) (i1) ?_
      refine r_iconst (pc := 54) (v := 0) d_Ro_dear_54 rfl ?_
      refine r_callV (pc := 55) (As := [.int (I2 96 (nI k).toNatClampNeg), .int 0]) (k := 6) (N := 10) (T := T_Ro) k_Ro_83 im_Ro_hurtsAt se_Ro_hurtsAt rfl (by decide) rfl (by decide) d_Ro_dear_55 (by assumption) (c_Ro_hurtsAt hRo) rfl (Nat.le_of_ble_eq_true rfl) (by omega) (by omega) (by omega) (fun v S' I' J' hq => ?_)
      obtain ⟨rfl, rfl, rfl, rfl⟩ := hq
      refine r_isub (pc := 58) d_Ro_dear_58 ?_
      refine sti_7_6 (pc := 59) d_Ro_dear_59 rfl ?_
      refine ldi_7_6 (pc := 61) d_Ro_dear_61 ?_
      refine ldi_7_4 (pc := 63) d_Ro_dear_63 ?_
      refine r_icmp_le (pc := 65) (tgt := 80) d_Ro_dear_65 (by decide) (fun c2 => ?_) (fun c2 => ?_)
      · refine inc_7_5 (pc := 80) (w := 1) d_Ro_dear_80 rfl rfl ?_
        refine r_goto (pc := 83) (tgt := 20) d_Ro_dear_83 (by decide) ?_
        rw [q1]
        exact qW.forget 6 (ih _ _ (fun e => by omega))
      · refine lda_n_7_0 (pc := 68) d_Ro_dear_68 ?_
        refine g_Ro_15 (pc := 69) rfl d_Ro_dear_69 (by assumption) (by assumption) ?_
        refine ldi_7_5 (pc := 72) d_Ro_dear_72 ?_
        refine r_iald (pc := 74) d_Ro_dear_74 (by assumption) (i1) ?_
        refine sti_n_7_3 (pc := 75) d_Ro_dear_75 rfl ?_
        refine ldi_7_6 (pc := 76) d_Ro_dear_76 ?_
        refine sti_7_4 (pc := 78) d_Ro_dear_78 rfl ?_
        refine inc_7_5 (pc := 80) (w := 1) d_Ro_dear_80 rfl rfl ?_
        refine r_goto (pc := 83) (tgt := 20) d_Ro_dear_83 (by decide) ?_
        rw [q1]
        exact qW.forget 6 (ih _ _ (fun e => by omega))
end QRO2
