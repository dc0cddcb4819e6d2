/-! the object's islands -/
def qIslS (S : qSh) (bl : Nat) : qSh := qsetR (qIsS (qpush (qsetR S 6 5 (some bl)) 1 0) (qN S)) 0 6 (some (qN S))
def sKeep (S S2 : qSh) : Prop := (∀ o k, qT S o k → qT S2 o k) ∧ (∀ o k n, qAr S o k n → qAr S2 o k n) ∧ ∀ o j, o < qN S → ¬ (o = 6 ∧ j = 5) → ¬ (o = 0 ∧ j = 6) → qR S2 o j = qR S o j
theorem qR_al {S : qSh} {o j a p k n : Nat} (h : o < qN S) (ho : o ≠ a) : qR (qal S a p k n) o j = qR S o j := by
  unfold qal
  rw [qR_set ho, qR_push h]
theorem isl_keep {S : qSh} {bl : Nat} : sKeep S (qIslS S bl) := by
  refine ⟨fun o k h => ?_, fun o k n h => ?_, fun o j h h1 h2 => ?_⟩
  · have h1 : qT (qsetR S 6 5 (some bl)) o k := h
    exact ((((h1.push (k2 := 1) (n := 0)).push (k2 := 11) (n := 100)).push (k2 := 11) (n := 10)).push (k2 := 11) (n := 10)).push (k2 := 11) (n := 6)
  · have h1 : qAr (qsetR S 6 5 (some bl)) o k n := h
    exact ((((h1.push (k2 := 1) (n2 := 0)).push (k2 := 11) (n2 := 100)).push (k2 := 11) (n2 := 10)).push (k2 := 11) (n2 := 10)).push (k2 := 11) (n2 := 6)
  · have n1 : o ≠ qN S := by omega
    have hl : o < qN (qsetR S 6 5 (some bl)) := h
    have e1 : qR (qIslS S bl) o j = qR (qIsS (qpush (qsetR S 6 5 (some bl)) 1 0) (qN S)) o j := qup_ne h2
    have hp : o < qN (qpush (qsetR S 6 5 (some bl)) 1 0) := by show o < qN S + 1; omega
    rw [e1]
    unfold qIsS
    rw [qR_al (by show o < qN S + 4; omega) n1, qR_al (by show o < qN S + 3; omega) n1, qR_al (by show o < qN S + 2; omega) n1, qR_al hp n1, qR_push hl]
    exact qup_ne h1
theorem isMo.kp {S S2 : qSh} {o : Nat} (k : sKeep S S2) (h : isMo S o) : isMo S2 o := ⟨k.1 _ _ h.1, k.2.1 _ _ _ h.2.1, (k.2.2 _ _ h.1.1 (by omega) (by omega)).trans h.2.2⟩
theorem isNo.kp {S S2 : qSh} {o n : Nat} (k : sKeep S S2) (h : isNo S o n) : isNo S2 o n := by
  obtain ⟨h1, h2, h3, h4, h5, h6, h7⟩ := h
  exact ⟨k.1 _ _ h1, k.2.1 _ _ _ h2, k.2.1 _ _ _ h3, k.2.1 _ _ _ h4, (k.2.2 _ _ h1.1 (by omega) (by omega)).trans h5, (k.2.2 _ _ h1.1 (by omega) (by omega)).trans h6, (k.2.2 _ _ h1.1 (by omega) (by omega)).trans h7⟩
theorem isIs.kp {S S2 : qSh} {o : Nat} (k : sKeep S S2) (h : isIs S o) (h0 : o ≠ 0) : isIs S2 o := by
  obtain ⟨h1, h2, h3, h4, h5, h6, h7, h8, h9⟩ := h
  exact ⟨k.1 _ _ h1, k.2.1 _ _ _ h2, k.2.1 _ _ _ h3, k.2.1 _ _ _ h4, k.2.1 _ _ _ h5, (k.2.2 _ _ h1.1 (by omega) (by omega)).trans h6, (k.2.2 _ _ h1.1 (by omega) (by omega)).trans h7, (k.2.2 _ _ h1.1 (by omega) (by omega)).trans h8, (k.2.2 _ _ h1.1 (by omega) (by omega)).trans h9⟩
theorem isMg.kp {S S2 : qSh} {o i i2 : Nat} (k : sKeep S S2) (h : isMg S o i) (h0 : o ≠ 0) (h05 : o ≠ 5) (h5 : qR S2 o 5 = some i2) (hi : isIs S2 i2) : isMg S2 o i2 := by
  obtain ⟨mT, mA1, mA2, mR0, mR2, mR5, mR6, mR7, mR8, nS, nP, nB, nI0, mRp, mMp⟩ := h
  have q : ∀ j, j ≠ 5 → qR S2 o j = qR S o j := fun j hj => k.2.2 _ _ mT.1 (by omega) (by omega)
  refine ⟨k.1 _ _ mT, k.2.1 _ _ _ mA1, k.2.1 _ _ _ mA2, (q _ (by decide)).trans mR0, (q _ (by decide)).trans mR2, h5, (q _ (by decide)).trans mR6, (q _ (by decide)).trans mR7, (q _ (by decide)).trans mR8, nS.kp k, nP.kp k, nB.kp k, hi, fun p hp => ?_, fun p hp => (mMp p hp).kp k⟩
  rw [k.2.2 (o + 1) p mA1.1 (by omega) (by omega)]
  exact mRp p hp
theorem isIs.newI {S : qSh} : isIs (qIsS (qpush S 1 0) (qN S)) (qN S) := by
  have t : qT (qpush S 1 0) (qN S) 1 := qT.new
  refine ⟨(((t.push (k2 := 11) (n := 100)).push (k2 := 11) (n := 10)).push (k2 := 11) (n := 10)).push (k2 := 11) (n := 6), ?_, ?_, ?_, ?_, ?_, ?_, ?_, ?_⟩
  · exact (((qAr.new (S := qpush S 1 0) (k := 11) (n := 100)).push (k2 := 11) (n2 := 10)).push (k2 := 11) (n2 := 10)).push (k2 := 11) (n2 := 6)
  · exact ((qAr.new (S := qal (qpush S 1 0) (qN S) 0 11 100) (k := 11) (n := 10)).push (k2 := 11) (n2 := 10)).push (k2 := 11) (n2 := 6)
  · exact (qAr.new (S := qal (qal (qpush S 1 0) (qN S) 0 11 100) (qN S) 2 11 10) (k := 11) (n := 10)).push (k2 := 11) (n2 := 6)
  · exact qAr.new (S := qal (qal (qal (qpush S 1 0) (qN S) 0 11 100) (qN S) 2 11 10) (qN S) 3 11 10) (k := 11) (n := 6)
  all_goals
    unfold qIsS qal qsetR qpush qR qup qN
    simp [Nat.add_assoc]
theorem isOn.isl {S : qSh} {w0 w1 w2 bl : Nat} (h : isOn S w0 w1 w2 bl) (h1 : w1 ≠ 0) (h2 : w2 ≠ 0) (hb : bl ≠ 0) : isOn (qIslS S bl) bl w1 w2 (qN S) := by
  have k := isl_keep (S := S) (bl := bl)
  obtain ⟨a1, a2, a3, a4, a5, a6, a7, a8, a9, a10, b0, b1, b2, b3, b4, b5, b6, b7, b8, b9, b10⟩ := h
  have q : ∀ j, j ≠ 6 → qR (qIslS S bl) 0 j = qR S 0 j := fun j hj => k.2.2 _ _ a1.1 (by omega) (by omega)
  have hn0 : qN S ≠ 0 := by have := a1.1; omega
  have hn6 : 6 ≠ qN S := by have := b1.1.1; omega
  have ni : isIs (qIslS S bl) (qN S) := by
    have z := isIs.newI (S := qsetR S 6 5 (some bl))
    obtain ⟨c1, c2, c3, c4, c5, c6, c7, c8, c9⟩ := z
    have e : ∀ j, qR (qIslS S bl) (qN S) j = qR (qIsS (qpush (qsetR S 6 5 (some bl)) 1 0) (qN S)) (qN S) j := fun j => qup_ne (fun w => hn0 w.1)
    exact ⟨c1, c2, c3, c4, c5, (e _).trans c6, (e _).trans c7, (e _).trans c8, (e _).trans c9⟩
  have r6 : qR (qIslS S bl) 6 5 = some bl := by
    have e1 : qR (qIslS S bl) 6 5 = qR (qIsS (qpush (qsetR S 6 5 (some bl)) 1 0) (qN S)) 6 5 := by
      show qup (qR (qIsS (qpush (qsetR S 6 5 (some bl)) 1 0) (qN S))) 0 6 (some (qN S)) 6 5 = _
      exact qup_ne (show ¬ (6 = 0 ∧ 5 = 6) by omega)
    have h6 : 6 < qN S := b1.1.1
    rw [e1]
    unfold qIsS
    rw [qR_al (by show 6 < qN S + 4; omega) hn6, qR_al (by show 6 < qN S + 3; omega) hn6, qR_al (by show 6 < qN S + 2; omega) hn6, qR_al (by show 6 < qN S + 1; omega) hn6, qR_push (show 6 < qN (qsetR S 6 5 (some bl)) from h6)]
    show qup (qR S) 6 5 (some bl) 6 5 = some bl
    exact qup_at
  have iI := b5.kp k hb
  have r0 : qR (qIslS S bl) 0 6 = some (qN S) := by
    show qup (qR (qIsS (qpush (qsetR S 6 5 (some bl)) 1 0) (qN S))) 0 6 (some (qN S)) 0 6 = _
    exact qup_at
  refine ⟨k.1 _ _ a1, (q _ (by decide)).trans a2, (q _ (by decide)).trans a3, (q _ (by decide)).trans a4, (q _ (by decide)).trans a5, (q _ (by decide)).trans a6, r0, (q _ (by decide)).trans a8, (q _ (by decide)).trans a9, (q _ (by decide)).trans a10, b0.kp k (by decide), b1.kp k (by decide) (by decide) r6 iI, b2.kp k (by decide) (by decide) ?_ (b2.is.kp k h1), b3.kp k (by decide) (by decide) ?_ (b3.is.kp k h2), ?_, ni, ?_, ?_, k.2.1 _ _ _ b8, fun t ht => ?_, fun t ht => ?_⟩
  · exact (k.2.2 _ _ b2.1.1 (by decide) (by decide)).trans b2.2.2.2.2.2.1
  · exact (k.2.2 _ _ b3.1.1 (by decide) (by decide)).trans b3.2.2.2.2.2.1
  · exact ⟨k.1 _ _ b4.1, k.2.1 _ _ _ b4.2.1, (k.2.2 _ _ b4.1.1 (by decide) (by decide)).trans b4.2.2⟩
  · obtain ⟨c1, c2, c3, c4, c5, c6, c7, c8, c9⟩ := b6
    exact ⟨k.1 _ _ c1, k.2.1 _ _ _ c2, k.2.1 _ _ _ c3, k.2.1 _ _ _ c4, k.2.1 _ _ _ c5, (k.2.2 _ _ c1.1 (by decide) (by decide)).trans c6, (k.2.2 _ _ c1.1 (by decide) (by decide)).trans c7, (k.2.2 _ _ c1.1 (by decide) (by decide)).trans c8, (k.2.2 _ _ c1.1 (by decide) (by decide)).trans c9⟩
  · exact ⟨k.1 _ _ b7.1, k.2.1 _ _ _ b7.2.1, (k.2.2 _ _ b7.1.1 (by decide) (by decide)).trans b7.2.2⟩
  · exact (k.2.2 101 t b8.1 (by omega) (by omega)).trans (b9 t ht)
  · obtain ⟨c1, c2, c3⟩ := b10 t ht
    exact ⟨k.1 _ _ c1, k.2.1 _ _ _ c2, (k.2.2 _ _ c1.1 (by omega) (by omega)).trans c3⟩
section H8
variable {E : qE} {S : qSh} {I : qI} {J : qJ} {w0 w1 w2 bl : Nat} {f : Nat → Int32} {n h : Nat}
theorem c_On_island6 (hO : isOn S w0 w1 w2 bl) (h6 : I 0 7 = 6) : qMet E y_On_island b_On_island 2 (some .int) 17 0 0 [.ref (qb E + 0)] S I J (qPi S I J (-4)) := by
  obtain ⟨oT, oR0, oR1, oR2, oR3, oR5, oR6, oR8, oR9, oR10, hI1, hN, hA, hM3, hRe, hBl, hRo, hAc, tA, tR, tT⟩ := hO
  refine qMet.of (L := [some (.ref (qb E + 0)), none]) (by decide +kernel) (Nat.le_of_ble_eq_true rfl) rfl ?_
  refine lda_n_2_0 (pc := 0) d_On_island_0 ?_
  refine g_On_135 (pc := 1) rfl d_On_island_1 (by assumption) ?_
  refine r_bipush (pc := 4) (v := 6) d_On_island_4 rfl ?_
  rw [h6]
  refine r_icmp_lt (pc := 6) (tgt := 12) d_On_island_6 (by decide) (fun c => ?_) (fun c => ?_)
  · exact absurd c (by decide)
  · refine r_bipush (pc := 9) (v := (-4)) d_On_island_9 rfl ?_
    exact r_iret d_On_island_11 rfl (by omega) (by omega) (⟨rfl, rfl, rfl, rfl⟩)
theorem c_On_island (hO : isOn S w0 w1 w2 bl) (hz : qZ S I J) (hx : qTx I f n bl) (hh : h < 6) (h7 : I 0 7 = nI h) (hb : bl ≠ 0) : qMet E y_On_island b_On_island 2 (some .int) 17 5 133 [.ref (qb E + 0)] S I J (fun v S' I' J' => J = J' ∧ ∃ K, qRc I bl n (rread f n) K ∧ ((rok (rread f n) n = 0 ∧ v = some (.int (-10 - K 87 2)) ∧ S = S' ∧ I' = qup K 87 1 0) ∨ (¬ rok (rread f n) n = 0 ∧ v = some (.int (nI h)) ∧ S' = qIslS S bl ∧ I' = qup (qup K 87 1 0) 0 7 (nI (h + 1))))) := by
  obtain ⟨oT, oR0, oR1, oR2, oR3, oR5, oR6, oR8, oR9, oR10, hI1, hN, hA, hM3, hRe, hBl, hRo, hAc, tA, tR, tT⟩ := hO
  have nT := hN.1
  have rT := hRe.1
  have rRR := hRe
  have bI := hBl
  have hzN := oT.1
  have h87 : 87 < qN S := rT.1
  have hbl := hBl.1.1
  have hbl1 := hBl.2.1.1
  have hbl2 := hBl.2.2.1.1
  have hbl3 := hBl.2.2.2.1.1
  have hbl4 := hBl.2.2.2.2.1.1
  refine qMet.of (L := [some (.ref (qb E + 0)), none]) (by decide +kernel) (Nat.le_of_ble_eq_true rfl) rfl ?_
  refine lda_n_2_0 (pc := 0) d_On_island_0 ?_
  refine g_On_135 (pc := 1) rfl d_On_island_1 (by assumption) ?_
  refine r_bipush (pc := 4) (v := 6) d_On_island_4 rfl ?_
  rw [h7]
  refine r_icmp_lt (pc := 6) (tgt := 12) d_On_island_6 (by decide) (fun c => ?_) (fun c => ?_)
  · refine lda_n_2_0 (pc := 12) d_On_island_12 ?_
    refine g_On_36 (pc := 13) rfl d_On_island_13 (by assumption) (by assumption) ?_
    refine lda_n_2_0 (pc := 16) d_On_island_16 ?_
    refine g_On_40 (pc := 17) rfl d_On_island_17 (by assumption) (by assumption) ?_
    refine r_callVN (pc := 20) (As := [.ref (qb E + bl)]) (k := 5) (N := 4) (T := T_Re) k_On_138 im_Re_reads se_Re_reads rfl (by decide) rfl (by decide) d_On_island_20 rT (c_Re_reads rRR bI hx) rfl (Nat.le_of_ble_eq_true rfl) (by omega) (by omega) (by omega) (fun v S' K J' hq => ?_)
    obtain ⟨rfl, rfl, hK, rfl⟩ := hq
    have kO : ∀ a, a ≠ 87 → a ≠ bl → a ≠ bl + 1 → a ≠ bl + 2 → a ≠ bl + 3 → K a = I a := hK.2.1
    refine sti_n_2_1 (pc := 23) d_On_island_23 rfl ?_
    refine lda_n_2_0 (pc := 24) d_On_island_24 ?_
    refine g_On_36 (pc := 25) rfl d_On_island_25 (by assumption) (by assumption) ?_
    refine r_iconst (pc := 28) (v := 0) d_On_island_28 rfl ?_
    refine p_On_128 (pc := 29) rfl d_On_island_29 (by assumption) ?_
    refine ldi_n_2_1 (pc := 32) d_On_island_32 ?_
    refine r_if_ne (pc := 33) (tgt := 47) d_On_island_33 (by decide) (fun c2 => ?_) (fun c2 => ?_)
    · have hzK : qZ S (qup K 87 1 0) J := fun a ha => by
        refine ⟨?_, (hz a ha).2⟩
        rw [qup_row (by omega), kO a (by omega) (by omega) (by omega) (by omega) (by omega)]
        exact (hz a ha).1
      have e7 : qup K 87 1 0 0 7 = nI h := by rw [qup_o (by decide), kO 0 (by decide) (Ne.symm hb) (by omega) (by omega) (by omega)]; exact h7
      generalize hM : qup K 87 1 0 = M at hzK e7 ⊢
      refine lda_n_2_0 (pc := 47) d_On_island_47 ?_
      refine g_On_23 (pc := 48) rfl d_On_island_48 (by assumption) (by assumption) ?_
      refine lda_n_2_0 (pc := 51) d_On_island_51 ?_
      refine g_On_40 (pc := 52) rfl d_On_island_52 (by assumption) (by assumption) ?_
      refine p_On_145 (pc := 55) rfl d_On_island_55 (by assumption) ?_
      have oT1 : qT (qsetR S 6 5 (some bl)) 0 8 := oT
      have hz1 : qZ (qsetR S 6 5 (some bl)) M J := hzK
      refine lda_n_2_0 (pc := 58) d_On_island_58 ?_
      refine r_newG (pc := 59) (k := 1) (N := 7) (C := "OneMourner$Island") (T := T_Is) rfl (by decide) la_Is ty_Is_ok rfl (by decide +kernel) ck_On_9 ia_Is ii_Is d_On_island_59 (by omega) (by omega) ?_
      rw [hz1.i, hz1.j]
      refine r_dup (pc := 62) d_On_island_62 rfl ?_
      have t1 : qT (qpush (qsetR S 6 5 (some bl)) 1 0) (qN S) 1 := qT.new (S := qsetR S 6 5 (some bl))
      refine r_callIN (pc := 63) (As := []) k_On_11 im_Is_init rfl rfl (by decide) d_On_island_63 (c_Is_init t1 hz1.push) rfl (Nat.le_of_ble_eq_true rfl) (by omega) (by omega) (by omega) (fun v S' I' J' hq => ?_)
      obtain ⟨rfl, rfl, rfl, rfl⟩ := hq
      have oT2 : qT (qIsS (qpush (qsetR S 6 5 (some bl)) 1 0) (qN S)) 0 8 := (((oT1.push (k2 := 1) (n := 0)).push (k2 := 11) (n := 100)).push (k2 := 11) (n := 10)).push (k2 := 11) (n := 10) |>.push (k2 := 11) (n := 6)
      change qW _ _ _ _ _ _ _ _ _ _ _ _ _ (qIsS (qpush (qsetR S 6 5 (some bl)) 1 0) (qN S)) _ _
      refine p_On_40 (pc := 66) rfl d_On_island_66 (by assumption) ?_
      have oT3 : qT (qIslS S bl) 0 8 := oT2
      change qW _ _ _ _ _ _ _ _ _ _ _ _ _ (qIslS S bl) _ _
      refine lda_n_2_0 (pc := 69) d_On_island_69 ?_
      refine r_dup (pc := 70) d_On_island_70 rfl ?_
      refine g_On_135 (pc := 71) rfl d_On_island_71 (by assumption) ?_
      refine r_iconst (pc := 74) (v := 1) d_On_island_74 rfl ?_
      refine r_iadd (pc := 75) d_On_island_75 ?_
      refine p_On_135 (pc := 76) rfl d_On_island_76 (by assumption) ?_
      rw [e7, q1]
      refine lda_n_2_0 (pc := 79) d_On_island_79 ?_
      refine g_On_135 (pc := 80) rfl d_On_island_80 (by assumption) ?_
      refine r_iconst (pc := 83) (v := 1) d_On_island_83 rfl ?_
      refine r_isub (pc := 84) d_On_island_84 ?_
      rw [qup_at, nI_pred]
      exact r_iret d_On_island_85 rfl (by omega) (by omega) (⟨rfl, K, hK, Or.inr ⟨c2, rfl, rfl, by rw [← hM]⟩⟩)
    · refine r_bipush (pc := 36) (v := (-10)) d_On_island_36 rfl ?_
      refine lda_n_2_0 (pc := 38) d_On_island_38 ?_
      refine g_On_36 (pc := 39) rfl d_On_island_39 (by assumption) (by assumption) ?_
      refine g_On_142 (pc := 42) rfl d_On_island_42 (by assumption) ?_
      rw [qup_j (by decide)]
      refine r_isub (pc := 45) d_On_island_45 ?_
      exact r_iret d_On_island_46 rfl (by omega) (by omega) (⟨rfl, K, hK, Or.inl ⟨c2, rfl, rfl, rfl⟩⟩)
  · exact absurd (show nI h < nI 6 from nI_lt hh (by omega)) c
theorem c_On_islandF (hO : isOn S w0 w1 w2 bl) (hz : qZ S I J) (hx : qTx I f n bl) (hh : h < 6) (h7 : I 0 7 = nI h) (hb : bl ≠ 0) (hr : rok (rread f n) n = 0) : qMet E y_On_island b_On_island 2 (some .int) 17 0 0 [.ref (qb E + 0)] S I J (fun v S' I' J' => J = J' ∧ ∃ K, qRc I bl n (rread f n) K ∧ ((rok (rread f n) n = 0 ∧ v = some (.int (-10 - K 87 2)) ∧ S = S' ∧ I' = qup K 87 1 0) ∨ (¬ rok (rread f n) n = 0 ∧ v = some (.int (nI h)) ∧ S' = qIslS S bl ∧ I' = qup (qup K 87 1 0) 0 7 (nI (h + 1))))) := by
  obtain ⟨oT, oR0, oR1, oR2, oR3, oR5, oR6, oR8, oR9, oR10, hI1, hN, hA, hM3, hRe, hBl, hRo, hAc, tA, tR, tT⟩ := hO
  have nT := hN.1
  have rT := hRe.1
  have rRR := hRe
  have bI := hBl
  have hzN := oT.1
  have h87 : 87 < qN S := rT.1
  have hbl := hBl.1.1
  have hbl1 := hBl.2.1.1
  have hbl2 := hBl.2.2.1.1
  have hbl3 := hBl.2.2.2.1.1
  have hbl4 := hBl.2.2.2.2.1.1
  refine qMet.of (L := [some (.ref (qb E + 0)), none]) (by decide +kernel) (Nat.le_of_ble_eq_true rfl) rfl ?_
  refine lda_n_2_0 (pc := 0) d_On_island_0 ?_
  refine g_On_135 (pc := 1) rfl d_On_island_1 (by assumption) ?_
  refine r_bipush (pc := 4) (v := 6) d_On_island_4 rfl ?_
  rw [h7]
  refine r_icmp_lt (pc := 6) (tgt := 12) d_On_island_6 (by decide) (fun c => ?_) (fun c => ?_)
  · refine lda_n_2_0 (pc := 12) d_On_island_12 ?_
    refine g_On_36 (pc := 13) rfl d_On_island_13 (by assumption) (by assumption) ?_
    refine lda_n_2_0 (pc := 16) d_On_island_16 ?_
    refine g_On_40 (pc := 17) rfl d_On_island_17 (by assumption) (by assumption) ?_
    refine r_callVN (pc := 20) (As := [.ref (qb E + bl)]) (k := 5) (N := 4) (T := T_Re) k_On_138 im_Re_reads se_Re_reads rfl (by decide) rfl (by decide) d_On_island_20 rT (c_Re_reads rRR bI hx) rfl (Nat.le_of_ble_eq_true rfl) (by omega) (by omega) (by omega) (fun v S' K J' hq => ?_)
    obtain ⟨rfl, rfl, hK, rfl⟩ := hq
    have kO : ∀ a, a ≠ 87 → a ≠ bl → a ≠ bl + 1 → a ≠ bl + 2 → a ≠ bl + 3 → K a = I a := hK.2.1
    refine sti_n_2_1 (pc := 23) d_On_island_23 rfl ?_
    refine lda_n_2_0 (pc := 24) d_On_island_24 ?_
    refine g_On_36 (pc := 25) rfl d_On_island_25 (by assumption) (by assumption) ?_
    refine r_iconst (pc := 28) (v := 0) d_On_island_28 rfl ?_
    refine p_On_128 (pc := 29) rfl d_On_island_29 (by assumption) ?_
    refine ldi_n_2_1 (pc := 32) d_On_island_32 ?_
    refine r_if_ne (pc := 33) (tgt := 47) d_On_island_33 (by decide) (fun c2 => ?_) (fun c2 => ?_)
    · exact absurd hr c2
    · refine r_bipush (pc := 36) (v := (-10)) d_On_island_36 rfl ?_
      refine lda_n_2_0 (pc := 38) d_On_island_38 ?_
      refine g_On_36 (pc := 39) rfl d_On_island_39 (by assumption) (by assumption) ?_
      refine g_On_142 (pc := 42) rfl d_On_island_42 (by assumption) ?_
      rw [qup_j (by decide)]
      refine r_isub (pc := 45) d_On_island_45 ?_
      exact r_iret d_On_island_46 rfl (by omega) (by omega) (⟨rfl, K, hK, Or.inl ⟨c2, rfl, rfl, rfl⟩⟩)
  · exact absurd (show nI h < nI 6 from nI_lt hh (by omega)) c
end H8
