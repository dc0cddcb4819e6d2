/-! clauses and the whole text -/
def qRc (I0 : qI) (o n : Nat) (c : qCl) (I : qI) : Prop := qRd I o n c.1 I ∧ (∀ a, a ≠ 87 → a ≠ o → a ≠ o + 1 → a ≠ o + 2 → a ≠ o + 3 → I a = I0 a) ∧ (∀ j, j ≠ 2 → j ≠ 3 → I 87 j = I0 87 j) ∧ I o 4 = nI c.2.1.length ∧ c.2.1.length ≤ 10 ∧ (∀ j, j < c.2.1.length → I (o + 2) j = (c.2.1.getD j (0, 0)).1 ∧ I (o + 3) j = nI (c.2.1.getD j (0, 0)).2 ∧ (c.2.1.getD j (0, 0)).2 ≤ 100) ∧ I o 5 = c.2.2
theorem qRd.self {I0 I : qI} {o n : Nat} {s : qSt} (h : qRd I0 o n s I) : qRd I o n s I := ⟨fun _ _ _ _ => rfl, fun _ _ _ => rfl, fun _ _ => rfl, h.2.2.2⟩
section QRD3
variable {E : qE} {S : qSh} {I0 : qI} {J : qJ} {f : Nat → Int32} {n o : Nat}
theorem qTx.of {I : qI} {c : qCl} (hx : qTx I0 f n o) (h : qRc I0 o n c I) : qTx I f n o := by
  obtain ⟨x1, x2, x3, x4⟩ := hx
  obtain ⟨h1, h2, h3, -⟩ := h
  exact ⟨by rw [h3 1 (by decide) (by decide)]; exact x1, x2, fun j hj => by rw [h2 88 (by decide) (by omega) (by omega) (by omega) (by omega)]; exact x3 j hj, x4⟩
theorem qRc.mid {I I' : qI} {c : qCl} {s : qSt} (h : qRc I0 o n c I) (h2 : qRd I o n s I') (ho : o ≠ 87) (h4 : o + 4 < 87 ∨ 88 < o) : qRc I0 o n (s, c.2) I' := by
  obtain ⟨a1, a2, a3, a4, a5, a6, a7⟩ := h
  have b := h2
  obtain ⟨b1, b2, b3, b4⟩ := h2
  refine ⟨b.self, fun a g1 g2 g3 g4 g5 => by rw [b1 a g1 g2 g3]; exact a2 a g1 g2 g3 g4 g5, fun j j2 j3 => by rw [b2 j j2 j3]; exact a3 j j2 j3, by rw [b3 4 (by decide)]; exact a4, a5, fun j hj => ?_, by rw [b3 5 (by decide)]; exact a7⟩
  rw [b1 (o + 2) (by omega) (by omega) (by omega), b1 (o + 3) (by omega) (by omega) (by omega)]
  exact a6 j hj
theorem qRc.lost {I : qI} {c : qCl} {x : Int32} (h : qRc I0 o n c I) (ho : o ≠ 87) : qRc I0 o n (c.1, c.2.1, x) (qup I o 5 x) := by
  obtain ⟨a1, a2, a3, a4, a5, a6, a7⟩ := h
  obtain ⟨b1, b2, b3, b4, b5, b6, b7, b8, b9⟩ := a1
  refine ⟨⟨fun _ _ _ _ => rfl, fun _ _ _ => rfl, fun _ _ => rfl, by rw [qup_o (Ne.symm ho)]; exact b4, by rw [qup_o (Ne.symm ho)]; exact b5, by rw [qup_j (by decide)]; exact b6, b7, fun j hj => by rw [qup_o (by omega)]; exact b8 j hj, b9⟩, fun a g1 g2 g3 g4 g5 => by rw [qup_row g2]; exact a2 a g1 g2 g3 g4 g5, fun j j2 j3 => by rw [qup_o (Ne.symm ho)]; exact a3 j j2 j3, by rw [qup_j (by decide)]; exact a4, a5, fun j hj => by rw [qup_o (by omega), qup_o (by omega)]; exact a6 j hj, by rw [qup_at]⟩
theorem qRc.endc {I : qI} {c : qCl} {x : Int32} (h : qRc I0 o n c I) (h4 : o + 4 < 87 ∨ 88 < o) : qRc I0 o n (c.1, rendc x c.1.2.2.length c.2.1, c.2.2) (qendc I o c.2.1.length x) := by
  obtain ⟨a1, a2, a3, a4, a5, a6, a7⟩ := h
  obtain ⟨b1, b2, b3, b4, b5, b6, b7, b8, b9⟩ := a1
  unfold qendc rendc
  by_cases hl : c.2.1.length < 10
  · rw [if_pos hl, if_pos hl]
    refine ⟨⟨fun _ _ _ _ => rfl, fun _ _ _ => rfl, fun _ _ => rfl, ?_, ?_, ?_, b7, fun j hj => ?_, b9⟩, fun a g1 g2 g3 g4 g5 => ?_, fun j j2 j3 => ?_, ?_, ?_, fun j hj => ?_, ?_⟩
    · rw [qup_o (by omega), qup_o (by omega), qup_o (by omega)]; exact b4
    · rw [qup_o (by omega), qup_o (by omega), qup_o (by omega)]; exact b5
    · rw [qup_j (by decide), qup_o (by omega), qup_o (by omega)]; exact b6
    · rw [qup_o (by omega), qup_o (by omega), qup_o (by omega)]; exact b8 j hj
    · rw [qup_row (by omega), qup_row (by omega), qup_row (by omega)]; exact a2 a g1 g2 g3 g4 g5
    · rw [qup_o (by omega), qup_o (by omega), qup_o (by omega)]; exact a3 j j2 j3
    · rw [qup_at]; simp
    · simp; omega
    · rw [qup_o (by omega), qup_o (by omega), qup_o (show o + 3 ≠ o by omega)]
      by_cases e : j = c.2.1.length
      · subst e
        rw [qup_at, qup_at, b6]
        simp
        exact b7
      · have hj2 : j < c.2.1.length := by simp at hj; omega
        rw [qup_j e, qup_j e, qup_o (show o + 3 ≠ o + 2 by omega)]
        have := a6 j hj2
        simp only [List.getD_eq_getElem?_getD, List.getElem?_append_left hj2] at this ⊢
        exact this
    · rw [qup_j (by decide), qup_o (by omega), qup_o (by omega)]; exact a7
  · rw [if_neg hl, if_neg hl]
    exact ⟨⟨b1, b2, b3, b4, b5, b6, b7, b8, b9⟩, a2, a3, a4, a5, a6, a7⟩
theorem c_Re_clause {I : qI} {c : qCl} (hR : isRe S) (hIs : isIs S o) (hx : qTx I0 f n o) (h : qRc I0 o n c I) : qMet E y_Re_clause b_Re_clause 5 none 15 0 0 [.ref (qb E + 87), .ref (qb E + o)] S I J (fun v S' I' J' => v = none ∧ S = S' ∧ qRc I0 o n (rclause f n c) I' ∧ J = J') := by
  have hR0 := hR
  obtain ⟨hT, hA, -⟩ := hR
  have gT := hIs.1
  have h4 := hx.2.2.2
  have ho : o ≠ 87 := by omega
  have hx1 := hx.of h
  have h1 := h.1
  refine qMet.of (L := [some (.ref (qb E + 87)), some (.ref (qb E + o)), none, none, none]) (by decide +kernel) (Nat.le_of_ble_eq_true rfl) rfl ?_
  refine lda_n_5_0 (pc := 0) d_Re_clause_0 ?_
  refine r_callV (pc := 1) (As := []) (k := 5) (N := 4) (T := T_Re) k_Re_32 im_Re_next se_Re_next rfl (by decide) rfl (by decide) d_Re_clause_1 (by assumption) (c_Re_next hR0 hx1 h1) rfl (Nat.le_of_ble_eq_true rfl) (by omega) (by omega) (by omega) (fun v S' I' J' hq => ?_)
  obtain ⟨rfl, rfl, rfl, rfl⟩ := hq
  have rest : ∀ (ia ic : Int32), (ia = if rnx f n c.1 = 97 then 1 else 0) → (ic = if rnx f n c.1 = 99 then 1 else 0) → qW E y_Re_clause b_Re_clause none 15 0 0 (fun v S' I' J' => v = none ∧ S = S' ∧ qRc I0 o n (rclause f n c) I' ∧ J = J') 0 0 30 [some (.ref (qb E + 87)), some (.ref (qb E + o)), some (.int ia), some (.int ic), none] [] S I J := by
    intro ia ic ea ec
    have bk : ∀ (i : Nat), i < 7 → qByt.getD i [] = rword f n c.1 → qW E y_Re_clause b_Re_clause none 15 0 0 (fun v S' I' J' => v = none ∧ S = S' ∧ qRc I0 o n (rclause f n c) I' ∧ J = J') 0 0 51 [some (.ref (qb E + 87)), some (.ref (qb E + o)), some (.int ia), some (.int ic), none] [.ref (qsK E i), .ref (qb E + 87)] S I J := by
      intro i hi ew
      refine r_callV (pc := 51) (As := [.ref (qsK E i)]) (k := 5) (N := 4) (T := T_Re) k_Re_45 im_Re_take se_Re_take rfl (by decide) rfl (by decide) d_Re_clause_51 (by assumption) (c_Re_take hi hR0 hx1 h1) rfl (Nat.le_of_ble_eq_true rfl) (by omega) (by omega) (by omega) (fun v S' I' J' hq => ?_)
      obtain ⟨rfl, rfl, h2, rfl⟩ := hq
      rw [ew] at h2
      refine lda_n_5_0 (pc := 54) d_Re_clause_54 ?_
      refine r_callV (pc := 55) (As := []) (k := 5) (N := 4) (T := T_Re) k_Re_49 im_Re_number se_Re_number rfl (by decide) rfl (by decide) d_Re_clause_55 (by assumption) (c_Re_number hR0 hx1 h2) rfl (Nat.le_of_ble_eq_true rfl) (by omega) (by omega) (by omega) (fun v S' I' J' hq => ?_)
      obtain ⟨rfl, rfl, h3, rfl⟩ := hq
      generalize hN : rnum f n (rtake f n (rword f n c.1) c.1) = nn at h3 ⊢
      refine sti_5_4 (pc := 58) d_Re_clause_58 rfl ?_
      refine ldi_n_5_2 (pc := 60) d_Re_clause_60 ?_
      have ache : (rnx f n c.1 = 97 ∨ rnx f n c.1 = 99) → qW E y_Re_clause b_Re_clause none 15 0 0 (fun v S' I' J' => v = none ∧ S = S' ∧ qRc I0 o n (rclause f n c) I' ∧ J = J') 0 0 68 [some (.ref (qb E + 87)), some (.ref (qb E + o)), some (.int ia), some (.int ic), some (.int nn.1)] [] S I' J := by
        intro hor
        have ec1 : rclause f n c = (reither f n (rone f n 4) (rtake f n (qByt.getD 4 []) nn.2), rendc (if rnx f n c.1 = 97 then nn.1 else -nn.1) (reither f n (rone f n 4) (rtake f n (qByt.getD 4 []) nn.2)).2.2.length c.2.1, c.2.2) := by
          unfold rclause; rw [if_pos hor, hN]
        refine lda_n_5_0 (pc := 68) d_Re_clause_68 ?_
        refine r_ldcS (pc := 69) (tx := " ") (i := 4) (by decide +kernel) d_Re_clause_69 ?_
        refine r_callV (pc := 71) (As := [.ref (qsK E 4)]) (k := 5) (N := 4) (T := T_Re) k_Re_45 im_Re_take se_Re_take rfl (by decide) rfl (by decide) d_Re_clause_71 (by assumption) (c_Re_take (by decide) hR0 hx1 h3) rfl (Nat.le_of_ble_eq_true rfl) (by omega) (by omega) (by omega) (fun v S'' I'' J'' hq => ?_)
        obtain ⟨rfl, rfl, h5, rfl⟩ := hq
        generalize rtake f n (qByt.getD 4 []) nn.2 = t5 at h5 ec1
        refine lda_n_5_0 (pc := 74) d_Re_clause_74 ?_
        refine lda_n_5_1 (pc := 75) d_Re_clause_75 ?_
        refine r_iconst (pc := 76) (v := 0) d_Re_clause_76 rfl ?_
        refine r_callV (pc := 77) (As := [.ref (qb E + o), .int (nI 0)]) (k := 5) (N := 4) (T := T_Re) k_Re_54 im_Re_either se_Re_either rfl (by decide) rfl (by decide) d_Re_clause_77 (by assumption) (c_Re_either hR0 hIs hx1 (fun I s hs => c_Re_one hR0 hIs hx1 4 0 rfl I s hs) (by omega) _ _ h5) rfl (Nat.le_of_ble_eq_true rfl) (by omega) (by omega) (by omega) (fun v S'' I3 J'' hq => ?_)
        obtain ⟨rfl, rfl, h6, rfl⟩ := hq
        generalize reither f n (rone f n 4) t5 = t6 at h6 ec1
        have hc6 := h.mid h6 ho h4
        refine lda_n_5_1 (pc := 80) d_Re_clause_80 ?_
        refine ldi_n_5_2 (pc := 81) d_Re_clause_81 ?_
        refine r_if_eq (pc := 82) (tgt := 90) d_Re_clause_82 (by decide) (fun d => ?_) (fun d => ?_)
        · have h97 : ¬ rnx f n c.1 = 97 := by intro q; rw [ea, if_pos q] at d; exact absurd d (by decide)
          rw [if_neg h97] at ec1
          refine ldi_5_4 (pc := 90) d_Re_clause_90 ?_
          refine r_ineg (pc := 92) d_Re_clause_92 ?_
          refine r_callVN (pc := 93) (As := [.int (-nn.1)]) (k := 1) (N := 7) (T := T_Is) k_Re_58 im_Is_endClause se_Is_endClause rfl (by decide) rfl (by decide) d_Re_clause_93 (by assumption) (c_Is_endClause hIs hc6.2.2.2.1 hc6.2.2.2.2.1) rfl (Nat.le_of_ble_eq_true rfl) (by omega) (by omega) (by omega) (fun v S'' I4 J'' hq => ?_)
          obtain ⟨rfl, rfl, rfl, rfl⟩ := hq
          refine r_goto (pc := 96) (tgt := 105) d_Re_clause_96 (by decide) ?_
          exact r_vret d_Re_clause_105 rfl (by omega) (by omega) (⟨rfl, rfl, by rw [ec1]; exact hc6.endc h4, rfl⟩)
        · have h97 : rnx f n c.1 = 97 := by
            rcases Classical.em (rnx f n c.1 = 97) with q | q
            · exact q
            · rw [ea, if_neg q] at d; exact absurd rfl d
          rw [if_pos h97] at ec1
          refine ldi_5_4 (pc := 85) d_Re_clause_85 ?_
          refine r_goto (pc := 87) (tgt := 93) d_Re_clause_87 (by decide) ?_
          refine r_callVN (pc := 93) (As := [.int nn.1]) (k := 1) (N := 7) (T := T_Is) k_Re_58 im_Is_endClause se_Is_endClause rfl (by decide) rfl (by decide) d_Re_clause_93 (by assumption) (c_Is_endClause hIs hc6.2.2.2.1 hc6.2.2.2.2.1) rfl (Nat.le_of_ble_eq_true rfl) (by omega) (by omega) (by omega) (fun v S'' I4 J'' hq => ?_)
          obtain ⟨rfl, rfl, rfl, rfl⟩ := hq
          refine r_goto (pc := 96) (tgt := 105) d_Re_clause_96 (by decide) ?_
          exact r_vret d_Re_clause_105 rfl (by omega) (by omega) (⟨rfl, rfl, by rw [ec1]; exact hc6.endc h4, rfl⟩)
      refine r_if_ne (pc := 61) (tgt := 68) d_Re_clause_61 (by decide) (fun c1 => ?_) (fun c1 => ?_)
      · have h97 : rnx f n c.1 = 97 := by
          rcases Classical.em (rnx f n c.1 = 97) with q | q
          · exact q
          · rw [ea, if_neg q] at c1; exact absurd rfl c1
        exact ache (Or.inl h97)
      · have h97 : ¬ rnx f n c.1 = 97 := by intro q; rw [ea, if_pos q] at c1; exact absurd c1 (by decide)
        refine ldi_n_5_3 (pc := 64) d_Re_clause_64 ?_
        refine r_if_eq (pc := 65) (tgt := 99) d_Re_clause_65 (by decide) (fun c2 => ?_) (fun c2 => ?_)
        · have h99 : ¬ rnx f n c.1 = 99 := by intro q; rw [ec, if_pos q] at c2; exact absurd c2 (by decide)
          refine lda_n_5_1 (pc := 99) d_Re_clause_99 ?_
          refine ldi_5_4 (pc := 100) d_Re_clause_100 ?_
          refine p_Re_62 (pc := 102) rfl d_Re_clause_102 (by assumption) ?_
          have ec1 : rclause f n c = (nn.2, c.2.1, nn.1) := by
            unfold rclause; rw [if_neg (fun q => q.elim h97 h99), hN]
          exact r_vret d_Re_clause_105 rfl (by omega) (by omega) (⟨rfl, rfl, by rw [ec1]; exact (h.mid h3 ho h4).lost ho, rfl⟩)
        · have h99 : rnx f n c.1 = 99 := by
            rcases Classical.em (rnx f n c.1 = 99) with q | q
            · exact q
            · rw [ec, if_neg q] at c2; exact absurd rfl c2
          exact ache (Or.inr h99)
    refine lda_n_5_0 (pc := 30) d_Re_clause_30 ?_
    refine ldi_n_5_2 (pc := 31) d_Re_clause_31 ?_
    refine r_if_eq (pc := 32) (tgt := 40) d_Re_clause_32 (by decide) (fun c1 => ?_) (fun c1 => ?_)
    · have h97 : ¬ rnx f n c.1 = 97 := by intro q; rw [ea, if_pos q] at c1; exact absurd c1 (by decide)
      refine ldi_n_5_3 (pc := 40) d_Re_clause_40 ?_
      refine r_if_eq (pc := 41) (tgt := 49) d_Re_clause_41 (by decide) (fun c2 => ?_) (fun c2 => ?_)
      · have h99 : ¬ rnx f n c.1 = 99 := by intro q; rw [ec, if_pos q] at c2; exact absurd c2 (by decide)
        refine r_ldcS (pc := 49) (tx := "lost ") (i := 3) (by decide +kernel) d_Re_clause_49 ?_
        exact bk 3 (by decide) (by unfold rword; rw [if_neg h97, if_neg h99])
      · have h99 : rnx f n c.1 = 99 := by
          rcases Classical.em (rnx f n c.1 = 99) with q | q
          · exact q
          · rw [ec, if_neg q] at c2; exact absurd rfl c2
        refine r_ldcS (pc := 44) (tx := "calm ") (i := 2) (by decide +kernel) d_Re_clause_44 ?_
        refine r_goto (pc := 46) (tgt := 51) d_Re_clause_46 (by decide) ?_
        exact bk 2 (by decide) (by unfold rword; rw [if_neg h97, if_pos h99])
    · have h97 : rnx f n c.1 = 97 := by
        rcases Classical.em (rnx f n c.1 = 97) with q | q
        · exact q
        · rw [ea, if_neg q] at c1; exact absurd rfl c1
      refine r_ldcS (pc := 35) (tx := "ache ") (i := 1) (by decide +kernel) d_Re_clause_35 ?_
      refine r_goto (pc := 37) (tgt := 51) d_Re_clause_37 (by decide) ?_
      exact bk 1 (by decide) (by unfold rword; rw [if_pos h97])
  have second : ∀ ia : Int32, (ia = if rnx f n c.1 = 97 then 1 else 0) → qW E y_Re_clause b_Re_clause none 15 0 0 (fun v S' I' J' => v = none ∧ S = S' ∧ qRc I0 o n (rclause f n c) I' ∧ J = J') 0 0 15 [some (.ref (qb E + 87)), some (.ref (qb E + o)), some (.int ia), none, none] [] S I J := by
    intro ia ea
    refine lda_n_5_0 (pc := 15) d_Re_clause_15 ?_
    refine r_callV (pc := 16) (As := []) (k := 5) (N := 4) (T := T_Re) k_Re_32 im_Re_next se_Re_next rfl (by decide) rfl (by decide) d_Re_clause_16 (by assumption) (c_Re_next hR0 hx1 h1) rfl (Nat.le_of_ble_eq_true rfl) (by omega) (by omega) (by omega) (fun v S' I' J' hq => ?_)
    obtain ⟨rfl, rfl, rfl, rfl⟩ := hq
    refine r_bipush (pc := 19) (v := 99) d_Re_clause_19 rfl ?_
    refine r_icmp_ne (pc := 21) (tgt := 28) d_Re_clause_21 (by decide) (fun c2 => ?_) (fun c2 => ?_)
    · refine r_iconst (pc := 28) (v := 0) d_Re_clause_28 rfl ?_
      refine sti_n_5_3 (pc := 29) d_Re_clause_29 rfl ?_
      exact rest _ _ ea (by rw [if_neg c2])
    · refine r_iconst (pc := 24) (v := 1) d_Re_clause_24 rfl ?_
      refine r_goto (pc := 25) (tgt := 29) d_Re_clause_25 (by decide) ?_
      refine sti_n_5_3 (pc := 29) d_Re_clause_29 rfl ?_
      exact rest _ _ ea (by rw [if_pos c2])
  refine r_bipush (pc := 4) (v := 97) d_Re_clause_4 rfl ?_
  refine r_icmp_ne (pc := 6) (tgt := 13) d_Re_clause_6 (by decide) (fun c1 => ?_) (fun c1 => ?_)
  · refine r_iconst (pc := 13) (v := 0) d_Re_clause_13 rfl ?_
    refine sti_n_5_2 (pc := 14) d_Re_clause_14 rfl ?_
    exact second _ (by rw [if_neg c1])
  · refine r_iconst (pc := 9) (v := 1) d_Re_clause_9 rfl ?_
    refine r_goto (pc := 10) (tgt := 14) d_Re_clause_10 (by decide) ?_
    refine sti_n_5_2 (pc := 14) d_Re_clause_14 rfl ?_
    exact second _ (by rw [if_pos c1])
/-- whether the whole text is an island -/
def rok (c : qCl) (n : Nat) : Int32 := if c.1.2.1 = false ∧ c.1.1 = n then 1 else 0
theorem qRc.start {I : qI} (h4 : o + 4 < 87 ∨ 88 < o) : qRc I o n ((0, false, []), [], 0) (qup (qup (qclear I o) 87 2 0) 87 3 0) := by
  unfold qclear
  refine ⟨⟨fun _ _ _ _ => rfl, fun _ _ _ => rfl, fun _ _ => rfl, ?_, ?_, ?_, by decide, fun j hj => absurd hj (Nat.not_lt_zero _), Nat.zero_le _⟩, fun a g1 g2 g3 g4 g5 => ?_, fun j j2 j3 => ?_, ?_, by decide, fun j hj => absurd hj (Nat.not_lt_zero _), ?_⟩
  · rw [qup_j (by decide), qup_at]; rfl
  · rw [qup_at]; rfl
  · rw [qup_o (by omega), qup_o (by omega), qup_j (by decide), qup_j (by decide), qup_at]; rfl
  · rw [qup_row g1, qup_row g1, qup_row g2, qup_row g2, qup_row g2]
  · rw [qup_j j3, qup_j j2, qup_o (by omega), qup_o (by omega), qup_o (by omega)]
  · rw [qup_o (by omega), qup_o (by omega), qup_j (by decide), qup_at]; rfl
  · rw [qup_o (by omega), qup_o (by omega), qup_at]
theorem c_Re_reads {I : qI} (hR : isRe S) (hIs : isIs S o) (hx : qTx I f n o) : qMet E y_Re_reads b_Re_reads 3 (some .boolean) 16 0 0 [.ref (qb E + 87), .ref (qb E + o)] S I J (fun v S' I' J' => v = some (.int (rok (rread f n) n)) ∧ S = S' ∧ qRc I o n (rread f n) I' ∧ J = J') := by
  have hR0 := hR
  obtain ⟨hT, hA, -⟩ := hR
  have gT := hIs.1
  have h4 := hx.2.2.2
  have ho : o ≠ 87 := by omega
  have ho1 : o + 1 ≠ 87 := by omega
  obtain ⟨rr, hrr⟩ : ∃ z, rread f n = z := ⟨_, rfl⟩
  rw [hrr]
  refine qMet.of (L := [some (.ref (qb E + 87)), some (.ref (qb E + o)), none]) (by decide +kernel) (Nat.le_of_ble_eq_true rfl) rfl ?_
  refine lda_n_3_1 (pc := 0) d_Re_reads_0 ?_
  refine r_callVN (pc := 1) (As := []) (k := 1) (N := 7) (T := T_Is) k_Re_15 im_Is_clear se_Is_clear rfl (by decide) rfl (by decide) d_Re_reads_1 (by assumption) (c_Is_clear gT) rfl (Nat.le_of_ble_eq_true rfl) (by omega) (by omega) (by omega) (fun v S' I' J' hq => ?_)
  obtain ⟨rfl, rfl, rfl, rfl⟩ := hq
  refine lda_n_3_0 (pc := 4) d_Re_reads_4 ?_
  refine r_iconst (pc := 5) (v := 0) d_Re_reads_5 rfl ?_
  refine p_Re_20 (pc := 6) rfl d_Re_reads_6 (by assumption) ?_
  refine lda_n_3_0 (pc := 9) d_Re_reads_9 ?_
  refine r_iconst (pc := 10) (v := 0) d_Re_reads_10 rfl ?_
  refine p_Re_24 (pc := 11) rfl d_Re_reads_11 (by assumption) (by first | exact Or.inl rfl | exact Or.inr rfl | assumption) ?_
  refine lda_n_3_0 (pc := 14) d_Re_reads_14 ?_
  refine lda_n_3_1 (pc := 15) d_Re_reads_15 ?_
  have st := qRc.start (n := n) (I := I) h4
  refine r_callV (pc := 16) (As := [.ref (qb E + o)]) (k := 5) (N := 4) (T := T_Re) k_Re_28 im_Re_clause se_Re_clause rfl (by decide) rfl (by decide) d_Re_reads_16 (by assumption) (c_Re_clause hR0 hIs hx st) rfl (Nat.le_of_ble_eq_true rfl) (by omega) (by omega) (by omega) (fun v S' I' J' hq => ?_)
  obtain ⟨rfl, rfl, h1, rfl⟩ := hq
  refine r_iconst (pc := 19) (v := 1) d_Re_reads_19 rfl ?_
  refine sti_n_3_2 (pc := 20) d_Re_reads_20 rfl ?_
  have fin : ∀ (M : qI) (z : Int32), qRc I o n (rr) M → qW E y_Re_reads b_Re_reads (some .boolean) 16 0 0 (fun v S' I' J' => v = some (.int (rok (rr) n)) ∧ S = S' ∧ qRc I o n (rr) I' ∧ J = J') 0 0 57 [some (.ref (qb E + 87)), some (.ref (qb E + o)), some (.int z)] [] S M J := by
    intro M z h
    obtain ⟨b1, b2, b3, b4, b5, b6, b7, b8, b9⟩ := h.1
    refine lda_n_3_0 (pc := 57) d_Re_reads_57 ?_
    refine g_Re_24 (pc := 58) rfl d_Re_reads_58 (by assumption) ?_
    rw [b5]
    unfold rok
    refine r_if_ne (pc := 61) (tgt := 79) d_Re_reads_61 (by decide) (fun c => ?_) (fun c => ?_)
    · have hb : ¬ (rr).1.2.1 = false := by intro q; rw [q] at c; exact absurd rfl c
      rw [if_neg (fun q => hb q.1)]
      refine r_iconst (pc := 79) (v := 0) d_Re_reads_79 rfl ?_
      exact r_nret d_Re_reads_80 rfl (qbool_n (by first | exact Or.inl rfl | exact Or.inr rfl | assumption | exact qwithin_b | exact qbit_b)) (by omega) (by omega) (⟨rfl, rfl, h, rfl⟩)
    · have hb : (rr).1.2.1 = false := by
        cases hs : (rr).1.2.1
        · rfl
        · rw [hs] at c; exact absurd c (by decide)
      refine lda_n_3_0 (pc := 64) d_Re_reads_64 ?_
      refine g_Re_20 (pc := 65) rfl d_Re_reads_65 (by assumption) ?_
      refine lda_n_3_0 (pc := 68) d_Re_reads_68 ?_
      refine g_Re_36 (pc := 69) rfl d_Re_reads_69 (by assumption) ?_
      rw [b4, h.2.2.1 1 (by decide) (by decide), hx.1]
      refine r_icmp_ne (pc := 72) (tgt := 79) d_Re_reads_72 (by decide) (fun c2 => ?_) (fun c2 => ?_)
      · have hne : ¬ (rr).1.1 = n := fun q => c2 (by rw [q])
        rw [if_neg (fun q => hne q.2)]
        refine r_iconst (pc := 79) (v := 0) d_Re_reads_79 rfl ?_
        exact r_nret d_Re_reads_80 rfl (qbool_n (by first | exact Or.inl rfl | exact Or.inr rfl | assumption | exact qwithin_b | exact qbit_b)) (by omega) (by omega) (⟨rfl, rfl, h, rfl⟩)
      · have he : (rr).1.1 = n := (nI_eq (by have := hx.2.1; omega) (by have := hx.2.1; omega)).mp c2
        rw [if_pos ⟨hb, he⟩]
        refine r_iconst (pc := 75) (v := 1) d_Re_reads_75 rfl ?_
        refine r_goto (pc := 76) (tgt := 80) d_Re_reads_76 (by decide) ?_
        exact r_nret d_Re_reads_80 rfl (qbool_n (by first | exact Or.inl rfl | exact Or.inr rfl | assumption | exact qwithin_b | exact qbit_b)) (by omega) (by omega) (⟨rfl, rfl, h, rfl⟩)
  have key : ∀ (m : Nat) (M : qI) (c : qCl) (z : Nat), m + z = 10 → qRc I o n c M → rreadN f n m c = rr → qW E y_Re_reads b_Re_reads (some .boolean) 16 0 0 (fun v S' I' J' => v = some (.int (rok (rr) n)) ∧ S = S' ∧ qRc I o n (rr) I' ∧ J = J') 0 0 21 [some (.ref (qb E + 87)), some (.ref (qb E + o)), some (.int (nI z))] [] S M J := by
    intro m
    induction m with
    | zero =>
      intro M c z hz h e
      rw [rreadN] at e
      refine ldi_n_3_2 (pc := 21) d_Re_reads_21 ?_
      refine r_bipush (pc := 22) (v := 10) d_Re_reads_22 rfl ?_
      refine r_icmp_ge (pc := 24) (tgt := 57) d_Re_reads_24 (by decide) (fun c1 => ?_) (fun c1 => ?_)
      · exact fin M _ (by rw [← e]; exact h)
      · exact absurd (show nI 10 ≤ nI z from nI_le (by omega) (by omega)) c1
    | succ m ih =>
      intro M c z hz h e
      rw [rreadN] at e
      have hx1 := hx.of h
      refine ldi_n_3_2 (pc := 21) d_Re_reads_21 ?_
      refine r_bipush (pc := 22) (v := 10) d_Re_reads_22 rfl ?_
      refine r_icmp_ge (pc := 24) (tgt := 57) d_Re_reads_24 (by decide) (fun c1 => ?_) (fun c1 => ?_)
      · exact absurd (show nI 10 ≤ nI z from c1) (nI_ge (by omega) (by omega))
      · refine lda_n_3_0 (pc := 27) d_Re_reads_27 ?_
        refine r_callV (pc := 28) (As := []) (k := 5) (N := 4) (T := T_Re) k_Re_32 im_Re_next se_Re_next rfl (by decide) rfl (by decide) d_Re_reads_28 (by assumption) (c_Re_next hR0 hx1 h.1) rfl (Nat.le_of_ble_eq_true rfl) (by omega) (by omega) (by omega) (fun v S' I' J' hq => ?_)
        obtain ⟨rfl, rfl, rfl, rfl⟩ := hq
        refine r_bipush (pc := 31) (v := 59) d_Re_reads_31 rfl ?_
        refine r_icmp_ne (pc := 33) (tgt := 57) d_Re_reads_33 (by decide) (fun c2 => ?_) (fun c2 => ?_)
        · rw [if_neg c2] at e
          exact fin M _ (by rw [← e]; exact h)
        · rw [if_pos c2] at e
          have hlt := (rnx_lt (f := f) (n := n) (s := c.1) (by rw [c2]; decide)).2
          have h2 := h.mid (h.1.adv ho ho1 hlt) ho h4
          refine lda_n_3_0 (pc := 36) d_Re_reads_36 ?_
          refine r_dup (pc := 37) d_Re_reads_37 rfl ?_
          refine g_Re_20 (pc := 38) rfl d_Re_reads_38 (by assumption) ?_
          refine r_iconst (pc := 41) (v := 1) d_Re_reads_41 rfl ?_
          refine r_iadd (pc := 42) d_Re_reads_42 ?_
          refine p_Re_20 (pc := 43) rfl d_Re_reads_43 (by assumption) ?_
          refine lda_n_3_0 (pc := 46) d_Re_reads_46 ?_
          refine lda_n_3_1 (pc := 47) d_Re_reads_47 ?_
          refine r_callV (pc := 48) (As := [.ref (qb E + o)]) (k := 5) (N := 4) (T := T_Re) k_Re_28 im_Re_clause se_Re_clause rfl (by decide) rfl (by decide) d_Re_reads_48 (by assumption) (c_Re_clause hR0 hIs hx h2) rfl (Nat.le_of_ble_eq_true rfl) (by omega) (by omega) (by omega) (fun v S'' I4 J'' hq => ?_)
          obtain ⟨rfl, rfl, h3, rfl⟩ := hq
          refine inc_3_2 (pc := 51) (w := 1) d_Re_reads_51 rfl rfl ?_
          refine r_goto (pc := 54) (tgt := 21) d_Re_reads_54 (by decide) ?_
          rw [q1]
          exact ih _ _ _ (by omega) h3 e
  exact key 9 _ _ 1 rfl h1 (by rw [← hrr]; rfl)
end QRD3
