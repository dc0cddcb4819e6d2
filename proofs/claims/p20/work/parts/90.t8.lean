/-! best, odds, means told exactly: the object's side -/
abbrev cWl (I : qI) (c : Nat) : List Nat := nWl (fun p => I (qm 6 p) 6) c
def cHh (I : qI) (w0 c : Nat) (h : Nat → Nat → Nat) : Prop := ∀ p j, p < c → j < 6 → wH (cls I 6 w0) (cpn I 6 w0 p) j = nI (h p j) ∧ h p j < 2 ^ 20
section T8
variable {E : qE} {S : qSh} {I : qI} {J : qJ} {w0 w1 w2 bl : Nat}
theorem c_On_bestX {x k : Int32} {c dd : Nat} {h : Nat → Nat → Nat} (hO : isOn S w0 w1 w2 bl) (hw : qW1 w0) (hok : qMgOK I 6 9999) (hI : qIsOK I w0) (hc : I 6 1 = nI c) (hc6 : c ≤ 6) (hd : I 6 4 = nI dd) (hdd : dd ≤ 9999) (hh : cHh I w0 c h) : qMet E y_On_best b_On_best 3 (some .int) 6 0 0 [.ref (qb E + 0), .int x, .int k] S I J (fun v S' I' J' => v = some (.int (aBest (cWl I c).length (nF h 0 (cWl I c)) x k)) ∧ S = S' ∧ qFr (qPr w0) I I' ∧ ∀ a, a ≠ 94 → J' a = J a) := by
  obtain ⟨oT, oR0, oR1, oR2, oR3, oR5, oR6, oR8, oR9, oR10, hI1, hN, hA, hM3, hRe, hBl, hRo, hAc, tA, tR, tT⟩ := hO
  have hRo0 := hRo
  obtain ⟨rT, rA1, rA2, rA3, rA4, rR0, rR1, rR3, rR4⟩ := hRo
  obtain ⟨-, -, -, -, n4, n5⟩ := nF_ok (h := h) (q := 0) (fun p => I (qm 6 p) 6) hc6 (fun p j hp hj => (hh p j hp hj).2)
  change ∃ m, (nF h 0 (cWl I c)).2.2.2.1 = some m at n4
  change ∃ m, (nF h 0 (cWl I c)).2.2.2.2 = some m at n5
  have zl : (cWl I c).length ≤ c := nWl_len c
  have hall := c_Ro_walkX (E := E) (J := J) (qn := 0) hRo0 hN hok hI hw.pos (by omega) hc hc6 hd hdd (by omega) hh
  change qMet E y_Ro_walk b_Ro_walk 5 none 5 0 0 [.ref (qb E + 94), .ref (qb E + 6), .int (nI 0)] S I J (fun v S' I' J' => v = none ∧ S = S' ∧ qFr (qPr w0) I I' ∧ I' 94 2 = nI (cWl I c).length ∧ (∀ a, a ≠ 94 → J' a = J a) ∧ cRs I' J' (cWl I c).length (nF h 0 (cWl I c))) at hall
  generalize nF h 0 (cWl I c) = F at *
  generalize cWl I c = W at *
  generalize hR : aBest W.length F x k = R
  unfold aBest at hR
  refine qMet.of (L := [some (.ref (qb E + 0)), some (.int x), some (.int k)]) (by decide +kernel) (Nat.le_of_ble_eq_true rfl) rfl ?_
  refine ldi_n_3_1 (pc := 0) d_On_best_0 ?_
  refine r_iconst (pc := 1) (v := 0) d_On_best_1 rfl ?_
  refine r_iconst (pc := 2) (v := 1) d_On_best_2 rfl ?_
  refine r_callS (pc := 3) (As := [.int x, .int 0, .int 1]) k_On_64 sw_On_within rfl (by decide) d_On_best_3 (c_On_within _ _ _) rfl (Nat.le_of_ble_eq_true rfl) (by omega) (by omega) (by omega) (fun v S' I' J' hq => ?_)
  obtain ⟨rfl, rfl, rfl, rfl⟩ := hq
  refine r_if_eq (pc := 6) (tgt := 18) d_On_best_6 (by decide) (fun c1 => ?_) (fun c1 => ?_)
  · rw [if_pos c1] at hR
    refine r_iconst (pc := 18) (v := (-1)) d_On_best_18 rfl ?_
    exact r_iret d_On_best_19 rfl (by omega) (by omega) (⟨by rw [← hR], rfl, qFr.rf, fun _ _ => rfl⟩)
  · rw [if_neg c1] at hR
    refine ldi_n_3_2 (pc := 9) d_On_best_9 ?_
    refine r_iconst (pc := 10) (v := (-1)) d_On_best_10 rfl ?_
    refine r_iconst (pc := 11) (v := 5) d_On_best_11 rfl ?_
    refine r_callS (pc := 12) (As := [.int k, .int (-1), .int 5]) k_On_64 sw_On_within rfl (by decide) d_On_best_12 (c_On_within _ _ _) rfl (Nat.le_of_ble_eq_true rfl) (by omega) (by omega) (by omega) (fun v S' I' J' hq => ?_)
    obtain ⟨rfl, rfl, rfl, rfl⟩ := hq
    refine r_if_ne (pc := 15) (tgt := 20) d_On_best_15 (by decide) (fun c2 => ?_) (fun c2 => ?_)
    · rw [if_neg c2] at hR
      refine lda_n_3_0 (pc := 20) d_On_best_20 ?_
      refine g_On_46 (pc := 21) rfl d_On_best_21 (by assumption) (by assumption) ?_
      refine lda_n_3_0 (pc := 24) d_On_best_24 ?_
      refine g_On_23 (pc := 25) rfl d_On_best_25 (by assumption) (by assumption) ?_
      refine r_iconst (pc := 28) (v := 0) d_On_best_28 rfl ?_
      refine r_callVN (pc := 29) (As := [.ref (qb E + 6), .int (nI 0)]) (k := 6) (N := 10) (T := T_Ro) k_On_184 im_Ro_walk se_Ro_walk rfl (by decide) rfl (by decide) d_On_best_29 rT (hall) rfl (Nat.le_of_ble_eq_true rfl) (by omega) (by omega) (by omega) (fun v S' I' J' hq => ?_)
      obtain ⟨rfl, rfl, fr, hz, fj, -, -, -, hL, hF⟩ := hq
      obtain ⟨a4, e4⟩ := n4
      obtain ⟨a5, e5⟩ := n5
      have bL : ∃ m r, a4 = (m, r) ∧ m < 2 ^ 30 ∧ I' 94 5 = nI m ∧ r.length = W.length ∧ ∀ k, k < W.length → I' 97 k = nI (r.getD k 0) := by
        rcases hL with ⟨z1, -⟩ | ⟨m, r, z1, z2, z3, z4, z5⟩
        · rw [z1] at e4; exact absurd e4 (by simp)
        · rw [z1] at e4; exact ⟨m, r, (Option.some.inj e4).symm, z2, z3, z4, z5⟩
      have bF : ∃ m r, a5 = (m, r) ∧ m < 2 ^ 30 ∧ I' 94 6 = nI m ∧ r.length = W.length ∧ ∀ k, k < W.length → I' 98 k = nI (r.getD k 0) := by
        rcases hF with ⟨z1, -⟩ | ⟨m, r, z1, z2, z3, z4, z5⟩
        · rw [z1] at e5; exact absurd e5 (by simp)
        · rw [z1] at e5; exact ⟨m, r, (Option.some.inj e5).symm, z2, z3, z4, z5⟩
      obtain ⟨m4, r4, rfl, l2, l3, l4, l5⟩ := bL
      obtain ⟨m5, r5, rfl, f2, f3, f4, f5⟩ := bF
      have hx : (if x = 0 then F.2.2.2.1 else F.2.2.2.2) = some (if x = 0 then (m4, r4) else (m5, r5)) := by
        by_cases q : x = 0
        · rw [if_pos q, if_pos q, e4]
        · rw [if_neg q, if_neg q, e5]
      rw [hx] at hR
      change (if k < 0 then nI (if x = 0 then (m4, r4) else (m5, r5)).1 else if nI W.length ≤ k then -5 else nI ((if x = 0 then (m4, r4) else (m5, r5)).2.getD k.toNatClampNeg 0)) = R at hR
      refine ldi_n_3_2 (pc := 32) d_On_best_32 ?_
      refine r_if_ge (pc := 33) (tgt := 58) d_On_best_33 (by decide) (fun c3 => ?_) (fun c3 => ?_)
      · obtain ⟨i, i1, rfl⟩ := nI_of2 (M := 5) (n := 5) rfl (Int32.not_lt.mpr c3) (qwithin_y c2).2
        rw [if_neg (Int32.not_lt.mpr c3)] at hR
        have hin : vp_in (nI i) 6 := vp_in_nI (by omega) (by omega)
        refine ldi_n_3_2 (pc := 58) d_On_best_58 ?_
        refine lda_n_3_0 (pc := 59) d_On_best_59 ?_
        refine g_On_46 (pc := 60) rfl d_On_best_60 (by assumption) (by assumption) ?_
        refine g_On_194 (pc := 63) rfl d_On_best_63 (by assumption) ?_
        rw [hz]
        refine r_icmp_lt (pc := 66) (tgt := 72) d_On_best_66 (by decide) (fun c4 => ?_) (fun c4 => ?_)
        · have hi : i < W.length := (nI_ltI (by omega) (by omega)).mp c4
          rw [if_neg (nI_ge hi (by omega)), qcl (n := i) (by omega)] at hR
          refine ldi_n_3_1 (pc := 72) d_On_best_72 ?_
          refine r_if_ne (pc := 73) (tgt := 88) d_On_best_73 (by decide) (fun c5 => ?_) (fun c5 => ?_)
          · rw [if_neg c5] at hR
            refine lda_n_3_0 (pc := 88) d_On_best_88 ?_
            refine g_On_46 (pc := 89) rfl d_On_best_89 (by assumption) (by assumption) ?_
            refine g_On_198 (pc := 92) rfl d_On_best_92 (by assumption) (by assumption) ?_
            refine ldi_n_3_2 (pc := 95) d_On_best_95 ?_
            refine r_iald (pc := 96) d_On_best_96 (by assumption) (by first | assumption | exact vp_in_nI (by omega) (by omega) | (unfold vp_in; decide)) ?_
            rw [qcl (n := i) (by omega), f5 i hi]
            exact r_iret d_On_best_97 rfl (by omega) (by omega) (⟨by rw [← hR], rfl, fr, fj⟩)
          · have c5' : x = 0 := by
              first | exact c5 | exact Decidable.not_not.mp c5
            rw [if_pos c5'] at hR
            refine lda_n_3_0 (pc := 76) d_On_best_76 ?_
            refine g_On_46 (pc := 77) rfl d_On_best_77 (by assumption) (by assumption) ?_
            refine g_On_195 (pc := 80) rfl d_On_best_80 (by assumption) (by assumption) ?_
            refine ldi_n_3_2 (pc := 83) d_On_best_83 ?_
            refine r_iald (pc := 84) d_On_best_84 (by assumption) (by first | assumption | exact vp_in_nI (by omega) (by omega) | (unfold vp_in; decide)) ?_
            refine r_goto (pc := 85) (tgt := 97) d_On_best_85 (by decide) ?_
            rw [qcl (n := i) (by omega), l5 i hi]
            exact r_iret d_On_best_97 rfl (by omega) (by omega) (⟨by rw [← hR], rfl, fr, fj⟩)
        · rw [if_pos (Int32.not_lt.mp c4)] at hR
          refine r_bipush (pc := 69) (v := (-5)) d_On_best_69 rfl ?_
          exact r_iret d_On_best_71 rfl (by omega) (by omega) (⟨by rw [← hR], rfl, fr, fj⟩)
      · have c3' : k < 0 := Int32.not_le.mp c3
        rw [if_pos c3'] at hR
        refine ldi_n_3_1 (pc := 36) d_On_best_36 ?_
        refine r_if_ne (pc := 37) (tgt := 50) d_On_best_37 (by decide) (fun c4 => ?_) (fun c4 => ?_)
        · rw [if_neg c4] at hR
          refine lda_n_3_0 (pc := 50) d_On_best_50 ?_
          refine g_On_46 (pc := 51) rfl d_On_best_51 (by assumption) (by assumption) ?_
          refine g_On_191 (pc := 54) rfl d_On_best_54 (by assumption) ?_
          exact r_iret d_On_best_57 rfl (by omega) (by omega) (⟨by rw [f3, ← hR], rfl, fr, fj⟩)
        · have c4' : x = 0 := by
            first | exact c4 | exact Decidable.not_not.mp c4
          rw [if_pos c4'] at hR
          refine lda_n_3_0 (pc := 40) d_On_best_40 ?_
          refine g_On_46 (pc := 41) rfl d_On_best_41 (by assumption) (by assumption) ?_
          refine g_On_188 (pc := 44) rfl d_On_best_44 (by assumption) ?_
          refine r_goto (pc := 47) (tgt := 57) d_On_best_47 (by decide) ?_
          exact r_iret d_On_best_57 rfl (by omega) (by omega) (⟨by rw [l3, ← hR], rfl, fr, fj⟩)
    · rw [if_pos c2] at hR
      refine r_iconst (pc := 18) (v := (-1)) d_On_best_18 rfl ?_
      exact r_iret d_On_best_19 rfl (by omega) (by omega) (⟨by rw [← hR], rfl, qFr.rf, fun _ _ => rfl⟩)
theorem c_On_oddsX {q p : Int32} {c dd : Nat} {h : Nat → Nat → Nat} (hO : isOn S w0 w1 w2 bl) (hw : qW1 w0) (hok : qMgOK I 6 9999) (hI : qIsOK I w0) (hc : I 6 1 = nI c) (hc6 : c ≤ 6) (hd : I 6 4 = nI dd) (hdd : dd ≤ 9999) (hh : cHh I w0 c h) : qMet E y_On_odds b_On_odds 3 (some .long) 6 0 0 [.ref (qb E + 0), .int q, .int p] S I J (fun v S' I' J' => v = some (.long (aOdds (nF h q.toNatClampNeg (cWl I c)) q p)) ∧ S = S' ∧ qFr (qPr w0) I I' ∧ ∀ a, a ≠ 94 → J' a = J a) := by
  obtain ⟨oT, oR0, oR1, oR2, oR3, oR5, oR6, oR8, oR9, oR10, hI1, hN, hA, hM3, hRe, hBl, hRo, hAc, tA, tR, tT⟩ := hO
  have hRo0 := hRo
  obtain ⟨rT, -⟩ := hRo
  obtain ⟨n1, n2, n3, n4, -, -⟩ := nF_ok (h := h) (q := q.toNatClampNeg) (fun p => I (qm 6 p) 6) hc6 (fun p j hp hj => (hh p j hp hj).2)
  change 1 ≤ (nF h q.toNatClampNeg (cWl I c)).1 at n1
  change (nF h q.toNatClampNeg (cWl I c)).1 ≤ 720 at n2
  change (nF h q.toNatClampNeg (cWl I c)).2.1 ≤ 720 at n3
  generalize hR : aOdds (nF h q.toNatClampNeg (cWl I c)) q p = R
  unfold aOdds at hR
  refine qMet.of (L := [some (.ref (qb E + 0)), some (.int q), some (.int p)]) (by decide +kernel) (Nat.le_of_ble_eq_true rfl) rfl ?_
  refine ldi_n_3_1 (pc := 0) d_On_odds_0 ?_
  refine r_iconst (pc := 1) (v := 0) d_On_odds_1 rfl ?_
  refine r_sipush (pc := 2) (v := 9999) d_On_odds_2 rfl ?_
  refine r_callS (pc := 5) (As := [.int q, .int 0, .int 9999]) k_On_64 sw_On_within rfl (by decide) d_On_odds_5 (c_On_within _ _ _) rfl (Nat.le_of_ble_eq_true rfl) (by omega) (by omega) (by omega) (fun v S' I' J' hq => ?_)
  obtain ⟨rfl, rfl, rfl, rfl⟩ := hq
  refine r_if_eq (pc := 8) (tgt := 20) d_On_odds_8 (by decide) (fun c1 => ?_) (fun c1 => ?_)
  · rw [if_pos c1] at hR
    refine r_ldc2 (pc := 20) cl_On_216 d_On_odds_20 ?_
    exact r_lret d_On_odds_23 rfl (by omega) (by omega) (⟨by rw [← hR], rfl, qFr.rf, fun _ _ => rfl⟩)
  · rw [if_neg c1] at hR
    refine ldi_n_3_2 (pc := 11) d_On_odds_11 ?_
    refine r_iconst (pc := 12) (v := 0) d_On_odds_12 rfl ?_
    refine r_iconst (pc := 13) (v := 1) d_On_odds_13 rfl ?_
    refine r_callS (pc := 14) (As := [.int p, .int 0, .int 1]) k_On_64 sw_On_within rfl (by decide) d_On_odds_14 (c_On_within _ _ _) rfl (Nat.le_of_ble_eq_true rfl) (by omega) (by omega) (by omega) (fun v S' I' J' hq => ?_)
    obtain ⟨rfl, rfl, rfl, rfl⟩ := hq
    refine r_if_ne (pc := 17) (tgt := 24) d_On_odds_17 (by decide) (fun c2 => ?_) (fun c2 => ?_)
    · rw [if_neg c2] at hR
      obtain ⟨g1, g2⟩ := qwithin_y c1
      obtain ⟨m, m1, rfl⟩ := nI_of2 (M := 9999) (n := 9999) rfl (Int32.not_lt.mpr g1) g2
      rw [qcl (n := m) (by omega)] at n1 n2 n3 hR
      have hall := c_Ro_walkX (E := E) (J := J) (qn := m) hRo0 hN hok hI hw.pos (by omega) hc hc6 hd hdd (by omega) hh
      change qMet E y_Ro_walk b_Ro_walk 5 none 5 0 0 [.ref (qb E + 94), .ref (qb E + 6), .int (nI m)] S I J (fun v S' I' J' => v = none ∧ S = S' ∧ qFr (qPr w0) I I' ∧ I' 94 2 = nI (cWl I c).length ∧ (∀ a, a ≠ 94 → J' a = J a) ∧ cRs I' J' (cWl I c).length (nF h m (cWl I c))) at hall
      generalize nF h m (cWl I c) = F at *
      generalize cWl I c = W at *
      refine lda_n_3_0 (pc := 24) d_On_odds_24 ?_
      refine g_On_46 (pc := 25) rfl d_On_odds_25 (by assumption) (by assumption) ?_
      refine lda_n_3_0 (pc := 28) d_On_odds_28 ?_
      refine g_On_23 (pc := 29) rfl d_On_odds_29 (by assumption) (by assumption) ?_
      refine ldi_n_3_1 (pc := 32) d_On_odds_32 ?_
      refine r_callVN (pc := 33) (As := [.ref (qb E + 6), .int (nI m)]) (k := 6) (N := 10) (T := T_Ro) k_On_184 im_Ro_walk se_Ro_walk rfl (by decide) rfl (by decide) d_On_odds_33 rT (hall) rfl (Nat.le_of_ble_eq_true rfl) (by omega) (by omega) (by omega) (fun v S' I' J' hq => ?_)
      obtain ⟨rfl, rfl, fr, -, fj, r1, r2, -, -, -⟩ := hq
      refine lda_n_3_0 (pc := 36) d_On_odds_36 ?_
      refine g_On_46 (pc := 37) rfl d_On_odds_37 (by assumption) (by assumption) ?_
      refine g_On_218 (pc := 40) rfl d_On_odds_40 (by assumption) ?_
      refine r_i2l (pc := 43) d_On_odds_43 ?_
      refine lda_n_3_0 (pc := 44) d_On_odds_44 ?_
      refine g_On_46 (pc := 45) rfl d_On_odds_45 (by assumption) (by assumption) ?_
      refine g_On_221 (pc := 48) rfl d_On_odds_48 (by assumption) ?_
      refine r_i2l (pc := 51) d_On_odds_51 ?_
      refine ldi_n_3_2 (pc := 52) d_On_odds_52 ?_
      rw [r1, r2, nI_l (by omega), nI_l (by omega)]
      refine r_callS (pc := 53) (As := [.long (lN F.2.1), .long (lN F.1), .int p]) k_On_224 sw_On_inLowestTerms rfl (by decide) d_On_odds_53 (c_On_inLowestTermsX p (by omega) n1 n2) rfl (Nat.le_of_ble_eq_true rfl) (by omega) (by omega) (by omega) (fun v S' I'' J'' hq => ?_)
      obtain ⟨rfl, rfl, rfl, rfl⟩ := hq
      exact r_lret d_On_odds_56 rfl (by omega) (by omega) (⟨by rw [← hR], rfl, fr, fj⟩)
    · rw [if_pos c2] at hR
      refine r_ldc2 (pc := 20) cl_On_216 d_On_odds_20 ?_
      exact r_lret d_On_odds_23 rfl (by omega) (by omega) (⟨by rw [← hR], rfl, qFr.rf, fun _ _ => rfl⟩)
theorem c_On_meanX {p : Int32} {c dd : Nat} {h : Nat → Nat → Nat} (hO : isOn S w0 w1 w2 bl) (hw : qW1 w0) (hok : qMgOK I 6 9999) (hI : qIsOK I w0) (hc : I 6 1 = nI c) (hc6 : c ≤ 6) (hd : I 6 4 = nI dd) (hdd : dd ≤ 9999) (hh : cHh I w0 c h) : qMet E y_On_mean b_On_mean 2 (some .long) 6 0 0 [.ref (qb E + 0), .int p] S I J (fun v S' I' J' => v = some (.long (aMean (nF h 0 (cWl I c)) p)) ∧ S = S' ∧ qFr (qPr w0) I I' ∧ ∀ a, a ≠ 94 → J' a = J a) := by
  obtain ⟨oT, oR0, oR1, oR2, oR3, oR5, oR6, oR8, oR9, oR10, hI1, hN, hA, hM3, hRe, hBl, hRo, hAc, tA, tR, tT⟩ := hO
  have hRo0 := hRo
  obtain ⟨rT, -⟩ := hRo
  obtain ⟨n1, n2, n3, n4, -, -⟩ := nF_ok (h := h) (q := 0) (fun p => I (qm 6 p) 6) hc6 (fun p j hp hj => (hh p j hp hj).2)
  change 1 ≤ (nF h 0 (cWl I c)).1 at n1
  change (nF h 0 (cWl I c)).1 ≤ 720 at n2
  change (nF h 0 (cWl I c)).2.2.1 < 2 ^ 40 at n4
  have hall := c_Ro_walkX (E := E) (J := J) (qn := 0) hRo0 hN hok hI hw.pos (by omega) hc hc6 hd hdd (by omega) hh
  change qMet E y_Ro_walk b_Ro_walk 5 none 5 0 0 [.ref (qb E + 94), .ref (qb E + 6), .int (nI 0)] S I J (fun v S' I' J' => v = none ∧ S = S' ∧ qFr (qPr w0) I I' ∧ I' 94 2 = nI (cWl I c).length ∧ (∀ a, a ≠ 94 → J' a = J a) ∧ cRs I' J' (cWl I c).length (nF h 0 (cWl I c))) at hall
  generalize nF h 0 (cWl I c) = F at *
  generalize cWl I c = W at *
  generalize hR : aMean F p = R
  unfold aMean at hR
  refine qMet.of (L := [some (.ref (qb E + 0)), some (.int p)]) (by decide +kernel) (Nat.le_of_ble_eq_true rfl) rfl ?_
  refine ldi_n_2_1 (pc := 0) d_On_mean_0 ?_
  refine r_iconst (pc := 1) (v := 0) d_On_mean_1 rfl ?_
  refine r_iconst (pc := 2) (v := 1) d_On_mean_2 rfl ?_
  refine r_callS (pc := 3) (As := [.int p, .int 0, .int 1]) k_On_64 sw_On_within rfl (by decide) d_On_mean_3 (c_On_within _ _ _) rfl (Nat.le_of_ble_eq_true rfl) (by omega) (by omega) (by omega) (fun v S' I' J' hq => ?_)
  obtain ⟨rfl, rfl, rfl, rfl⟩ := hq
  refine r_if_ne (pc := 6) (tgt := 13) d_On_mean_6 (by decide) (fun c2 => ?_) (fun c2 => ?_)
  · rw [if_neg c2] at hR
    refine lda_n_2_0 (pc := 13) d_On_mean_13 ?_
    refine g_On_46 (pc := 14) rfl d_On_mean_14 (by assumption) (by assumption) ?_
    refine lda_n_2_0 (pc := 17) d_On_mean_17 ?_
    refine g_On_23 (pc := 18) rfl d_On_mean_18 (by assumption) (by assumption) ?_
    refine r_iconst (pc := 21) (v := 0) d_On_mean_21 rfl ?_
    refine r_callVN (pc := 22) (As := [.ref (qb E + 6), .int (nI 0)]) (k := 6) (N := 10) (T := T_Ro) k_On_184 im_Ro_walk se_Ro_walk rfl (by decide) rfl (by decide) d_On_mean_22 rT (hall) rfl (Nat.le_of_ble_eq_true rfl) (by omega) (by omega) (by omega) (fun v S' I' J' hq => ?_)
    obtain ⟨rfl, rfl, fr, -, fj, r1, -, r3, -, -⟩ := hq
    refine lda_n_2_0 (pc := 25) d_On_mean_25 ?_
    refine g_On_46 (pc := 26) rfl d_On_mean_26 (by assumption) (by assumption) ?_
    refine g_On_228 (pc := 29) rfl d_On_mean_29 (by assumption) ?_
    refine lda_n_2_0 (pc := 32) d_On_mean_32 ?_
    refine g_On_46 (pc := 33) rfl d_On_mean_33 (by assumption) (by assumption) ?_
    refine g_On_221 (pc := 36) rfl d_On_mean_36 (by assumption) ?_
    refine r_i2l (pc := 39) d_On_mean_39 ?_
    refine ldi_n_2_1 (pc := 40) d_On_mean_40 ?_
    rw [r1, r3, nI_l (by omega)]
    refine r_callS (pc := 41) (As := [.long (lN F.2.2.1), .long (lN F.1), .int p]) k_On_224 sw_On_inLowestTerms rfl (by decide) d_On_mean_41 (c_On_inLowestTermsX p (by omega) n1 n2) rfl (Nat.le_of_ble_eq_true rfl) (by omega) (by omega) (by omega) (fun v S' I'' J'' hq => ?_)
    obtain ⟨rfl, rfl, rfl, rfl⟩ := hq
    exact r_lret d_On_mean_44 rfl (by omega) (by omega) (⟨by rw [← hR], rfl, fr, fj⟩)
  · rw [if_pos c2] at hR
    refine r_ldc2 (pc := 9) cl_On_216 d_On_mean_9 ?_
    exact r_lret d_On_mean_12 rfl (by omega) (by omega) (⟨by rw [← hR], rfl, qFr.rf, fun _ _ => rfl⟩)
end T8
