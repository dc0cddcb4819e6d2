/-! the object's calls on AHEAD -/
def qW1 (w : Nat) : Prop := w = 1 ∨ w = 89 ∨ 148 ≤ w
def aP (w0 : Nat) (a : Nat) : Prop := (33 ≤ a ∧ a ≤ 59) ∨ a = w0 + 4
def cAh0 (I : qI) : Prop := (∀ p, p < 6 → qbool (I (qm 33 p) 6)) ∧ ∀ r, r < 5 → ∃ z, z ≤ 20 ∧ I (33 + 6) r = nI z
theorem qMgOK.ah {I : qI} {D : Nat} (h : qMgOK I 33 D) : cAh0 I := ⟨h.2.2.2.2.2.2.1, h.2.2.2.2.2.2.2⟩
theorem isOn.set6 {S : qSh} {w0 w1 w2 bl w : Nat} (h : isOn S w0 w1 w2 bl) (hw : isIs S w) : isOn (qsetR S 6 5 (some w)) w w1 w2 bl := by
  obtain ⟨a1, a2, a3, a4, a5, a6, a7, a8, a9, a10, b0, b1, b2, b3, b4, b5, b6, b7, b8, b9, b10⟩ := h
  have q : ∀ a j, a ≠ 6 → qR (qsetR S 6 5 (some w)) a j = qR S a j := fun a j ha => qup_o ha
  refine ⟨a1, (q _ _ (by decide)).trans a2, (q _ _ (by decide)).trans a3, (q _ _ (by decide)).trans a4, (q _ _ (by decide)).trans a5, (q _ _ (by decide)).trans a6, (q _ _ (by decide)).trans a7, (q _ _ (by decide)).trans a8, (q _ _ (by decide)).trans a9, (q _ _ (by decide)).trans a10, b0.set5, b1.set5 hw, b2.set5o (by unfold qApM; omega), b3.set5o (by unfold qApM; omega), ?_, b5.set5, ?_, ?_, b8, fun t ht => (q _ _ (by decide)).trans (b9 t ht), fun t ht => ?_⟩
  · exact ⟨b4.1, b4.2.1, (q _ _ (by decide)).trans b4.2.2⟩
  · obtain ⟨c1, c2, c3, c4, c5, c6, c7, c8, c9⟩ := b6
    exact ⟨c1, c2, c3, c4, c5, (q _ _ (by decide)).trans c6, (q _ _ (by decide)).trans c7, (q _ _ (by decide)).trans c8, (q _ _ (by decide)).trans c9⟩
  · exact ⟨b7.1, b7.2.1, (q _ _ (by decide)).trans b7.2.2⟩
  · obtain ⟨c1, c2, c3⟩ := b10 t ht
    exact ⟨c1, c2, (q _ _ (by omega)).trans c3⟩
theorem isOn.set33 {S : qSh} {w0 w1 w2 bl w : Nat} (h : isOn S w0 w1 w2 bl) (hw : isIs S w) : isOn (qsetR S 33 5 (some w)) w0 w w2 bl := by
  obtain ⟨a1, a2, a3, a4, a5, a6, a7, a8, a9, a10, b0, b1, b2, b3, b4, b5, b6, b7, b8, b9, b10⟩ := h
  have q : ∀ a j, a ≠ 33 → qR (qsetR S 33 5 (some w)) a j = qR S a j := fun a j ha => qup_o ha
  refine ⟨a1, (q _ _ (by decide)).trans a2, (q _ _ (by decide)).trans a3, (q _ _ (by decide)).trans a4, (q _ _ (by decide)).trans a5, (q _ _ (by decide)).trans a6, (q _ _ (by decide)).trans a7, (q _ _ (by decide)).trans a8, (q _ _ (by decide)).trans a9, (q _ _ (by decide)).trans a10, b0.set5, b1.set5o (by unfold qApM; omega), b2.set5 hw, b3.set5o (by unfold qApM; omega), ?_, b5.set5, ?_, ?_, b8, fun t ht => (q _ _ (by decide)).trans (b9 t ht), fun t ht => ?_⟩
  · exact ⟨b4.1, b4.2.1, (q _ _ (by decide)).trans b4.2.2⟩
  · obtain ⟨c1, c2, c3, c4, c5, c6, c7, c8, c9⟩ := b6
    exact ⟨c1, c2, c3, c4, c5, (q _ _ (by decide)).trans c6, (q _ _ (by decide)).trans c7, (q _ _ (by decide)).trans c8, (q _ _ (by decide)).trans c9⟩
  · exact ⟨b7.1, b7.2.1, (q _ _ (by decide)).trans b7.2.2⟩
  · obtain ⟨c1, c2, c3⟩ := b10 t ht
    exact ⟨c1, c2, (q _ _ (by omega)).trans c3⟩
theorem isOn.set60 {S : qSh} {w0 w1 w2 bl w : Nat} (h : isOn S w0 w1 w2 bl) (hw : isIs S w) : isOn (qsetR S 60 5 (some w)) w0 w1 w bl := by
  obtain ⟨a1, a2, a3, a4, a5, a6, a7, a8, a9, a10, b0, b1, b2, b3, b4, b5, b6, b7, b8, b9, b10⟩ := h
  have q : ∀ a j, a ≠ 60 → qR (qsetR S 60 5 (some w)) a j = qR S a j := fun a j ha => qup_o ha
  refine ⟨a1, (q _ _ (by decide)).trans a2, (q _ _ (by decide)).trans a3, (q _ _ (by decide)).trans a4, (q _ _ (by decide)).trans a5, (q _ _ (by decide)).trans a6, (q _ _ (by decide)).trans a7, (q _ _ (by decide)).trans a8, (q _ _ (by decide)).trans a9, (q _ _ (by decide)).trans a10, b0.set5, b1.set5o (by unfold qApM; omega), b2.set5o (by unfold qApM; omega), b3.set5 hw, ?_, b5.set5, ?_, ?_, b8, fun t ht => (q _ _ (by decide)).trans (b9 t ht), fun t ht => ?_⟩
  · exact ⟨b4.1, b4.2.1, (q _ _ (by decide)).trans b4.2.2⟩
  · obtain ⟨c1, c2, c3, c4, c5, c6, c7, c8, c9⟩ := b6
    exact ⟨c1, c2, c3, c4, c5, (q _ _ (by decide)).trans c6, (q _ _ (by decide)).trans c7, (q _ _ (by decide)).trans c8, (q _ _ (by decide)).trans c9⟩
  · exact ⟨b7.1, b7.2.1, (q _ _ (by decide)).trans b7.2.2⟩
  · obtain ⟨c1, c2, c3⟩ := b10 t ht
    exact ⟨c1, c2, (q _ _ (by omega)).trans c3⟩
theorem isMg.is {S : qSh} {o i : Nat} (h : isMg S o i) : isIs S i := h.2.2.2.2.2.2.2.2.2.2.2.2.1
theorem aBec {I : qI} {w0 : Nat} (hw : qW1 w0) (hok : qMgOK I 6 9999) (hI : qIsOK I w0) (h33 : cAh0 I) : qMgOK (qmbec I 33 6) 33 9999 ∧ qIsOK (qmbec I 33 6) w0 ∧ qFr (aP w0) I (qmbec I 33 6) := by
  unfold qW1 at hw
  refine ⟨qmbec_ok hok (by unfold qApM; omega) h33.1 h33.2, hI.of (qmbec_row hok (by omega)) (qmbec_row hok (by omega)), fun a ha => qmbec_row hok ?_⟩
  unfold aP at ha
  omega
theorem aGo {I K I3 : qI} {w0 D n : Nat} {most : Int32} (hw : qW1 w0) (ok : qMgOK K 33 D) (is : qIsOK K w0) (fr : qFr (aP w0) I K) (he : qEq (w0 + 4) (qgoN K 33 w0 most n) I3) : qMgOK I3 33 (D + n) ∧ qIsOK I3 w0 ∧ qFr (aP w0) I I3 := by
  unfold qW1 at hw
  have r : ∀ a, a < 33 ∨ 33 + 26 < a → a ≠ w0 + 4 → I3 a = K a := fun a h1 h2 => by rw [he a h2, qgoN_row ok h1]
  refine ⟨(ok.goN n).eq (by unfold qApart; omega) he, is.of (r _ (by omega) (by omega)) (r _ (by omega) (by omega)), fun a ha => ?_⟩
  rw [← fr a ha]
  unfold aP at ha
  exact r a (by omega) (by omega)
theorem aPlan {I K I3 : qI} {w0 D n : Nat} (hw : qW1 w0) (ok : qMgOK K 33 D) (fr : qFr (aP w0) I K) (he : qEq (w0 + 4) (qplanN K 33 w0 n) I3) : qMgOK I3 33 (D + n) ∧ qFr (aP w0) I I3 := by
  unfold qW1 at hw
  refine ⟨(ok.planN n).eq (by unfold qApart; omega) he, fun a ha => ?_⟩
  rw [← fr a ha]
  unfold aP at ha
  rw [he a (by omega), qplanN_row ok (by omega)]
abbrev cAQ (S : qSh) (I : qI) (J : qJ) (w0 : Nat) : qPost := fun v S' I' J' => (∃ r, v = some (.int r)) ∧ (S' = S ∨ S' = qsetR S 33 5 (some w0)) ∧ qFr (aP w0) I I' ∧ cAh0 I' ∧ J = J'
section H4
variable {E : qE} {S : qSh} {I : qI} {J : qJ} {w0 w1 w2 bl : Nat}
theorem c_On_on {n x : Int32} {c : Nat} (hO : isOn S w0 w1 w2 bl) (hw : qW1 w0) (hok : qMgOK I 6 9999) (hI : qIsOK I w0) (h33 : cAh0 I) (hc : I 6 1 = nI c) (hc6 : c ≤ 6) : qMet E y_On_on b_On_on 4 (some .int) 5 0 0 [.ref (qb E + 0), .int n, .int x] S I J (cAQ S I J w0) := by
  have hO0 := hO
  obtain ⟨oT, oR0, oR1, oR2, oR3, oR5, oR6, oR8, oR9, oR10, hI1, hN, hA, hM3, hRe, hBl, hRo, hAc, tA, tR, tT⟩ := hO
  have aT := hA.1
  have nT := hN.1
  obtain ⟨ok2, is2, fr2⟩ := aBec hw hok hI h33
  have hO2 := hO0.set33 hN.is
  have B : ∀ b : Int32, (b = 0 ∨ ∃ p, p < c ∧ x - 10 = nI p) → qW E y_On_on b_On_on (some .int) 5 0 0 (cAQ S I J w0) 0 0 38 [some (.ref (qb E + 0)), some (.int n), some (.int x), some (.int b)] [] S I J := by
    intro b hb
    refine ldi_n_4_1 (pc := 38) d_On_on_38 ?_
    refine r_iconst (pc := 39) (v := 0) d_On_on_39 rfl ?_
    refine r_bipush (pc := 40) (v := 60) d_On_on_40 rfl ?_
    refine r_callS (pc := 42) (As := [.int n, .int 0, .int 60]) k_On_64 sw_On_within rfl (by decide) d_On_on_42 (c_On_within _ _ _) rfl (Nat.le_of_ble_eq_true rfl) (by omega) (by omega) (by omega) (fun v S' I' J' hq => ?_)
    obtain ⟨rfl, rfl, rfl, rfl⟩ := hq
    refine r_if_ne (pc := 45) (tgt := 51) d_On_on_45 (by decide) (fun c1 => ?_) (fun c1 => ?_)
    · obtain ⟨g1, g2⟩ := qwithin_y c1
      obtain ⟨m, m1, rfl⟩ := nI_of2 (M := 60) (n := 60) rfl (Int32.not_lt.mpr g1) g2
      refine lda_n_4_0 (pc := 51) d_On_on_51 ?_
      refine g_On_27 (pc := 52) rfl d_On_on_52 (by assumption) (by assumption) ?_
      refine lda_n_4_0 (pc := 55) d_On_on_55 ?_
      refine g_On_23 (pc := 56) rfl d_On_on_56 (by assumption) (by assumption) ?_
      refine r_callVN (pc := 59) (As := [.ref (qb E + 6)]) (k := 3) (N := 9) (T := T_Mg) k_On_179 im_Mg_becomes se_Mg_becomes rfl (by decide) rfl (by decide) d_On_on_59 aT (c_Mg_becomes hA hN hok (by unfold qApM; omega)) rfl (Nat.le_of_ble_eq_true rfl) (by omega) (by omega) (by omega) (fun v S2 I2 J' hq => ?_)
      obtain ⟨rfl, hS2, rfl, rfl⟩ := hq
      have hO3 : isOn S2 w0 w0 w2 bl := by rw [hS2]; exact hO2
      obtain ⟨oT', oR0', oR1', oR2', oR3', oR5', oR6', oR8', oR9', oR10', hI1', hN', hA', -⟩ := hO3
      have aT' := hA'.1
      refine lda_n_4_0 (pc := 62) d_On_on_62 ?_
      refine g_On_27 (pc := 63) rfl d_On_on_63 (by assumption) (by assumption) ?_
      refine ldi_n_4_1 (pc := 66) d_On_on_66 ?_
      refine r_ldc (pc := 67) ct_On_183 d_On_on_67 ?_
      refine r_callVN (pc := 69) (As := [.int (nI m), .int 2147483647]) (k := 3) (N := 9) (T := T_Mg) k_On_175 im_Mg_go se_Mg_go rfl (by decide) rfl (by decide) d_On_on_69 aT' (c_Mg_go (n := m) (D := 9999) hA' ok2 is2 (by unfold qApart; unfold qW1 at hw; omega) (by omega)) rfl (Nat.le_of_ble_eq_true rfl) (by omega) (by omega) (by omega) (fun v S' I3 J' hq => ?_)
      obtain ⟨rfl, rfl, hI3, rfl⟩ := hq
      obtain ⟨ok3, is3, fr3⟩ := aGo hw ok2 is2 fr2 hI3
      refine ldi_n_4_3 (pc := 72) d_On_on_72 ?_
      refine r_if_eq (pc := 73) (tgt := 92) d_On_on_73 (by decide) (fun c4 => ?_) (fun c4 => ?_)
      · refine ldi_n_4_2 (pc := 92) d_On_on_92 ?_
        refine r_if_ne (pc := 93) (tgt := 106) d_On_on_93 (by decide) (fun c5 => ?_) (fun c5 => ?_)
        · refine lda_n_4_0 (pc := 106) d_On_on_106 ?_
          refine g_On_27 (pc := 107) rfl d_On_on_107 (by assumption) (by assumption) ?_
          refine r_callVN (pc := 110) (As := []) (k := 3) (N := 9) (T := T_Mg) k_On_161 im_Mg_howManyDone se_Mg_howManyDone rfl (by decide) rfl (by decide) d_On_on_110 aT' (c_Mg_howManyDone hA' ok3) rfl (Nat.le_of_ble_eq_true rfl) (by omega) (by omega) (by omega) (fun v S' I' J' hq => ?_)
          obtain ⟨rfl, rfl, rfl, rfl⟩ := hq
          exact r_iret d_On_on_113 rfl (by omega) (by omega) (⟨⟨_, rfl⟩, Or.inr hS2, fr3, ok3.ah, rfl⟩)
        · refine lda_n_4_0 (pc := 96) d_On_on_96 ?_
          refine g_On_27 (pc := 97) rfl d_On_on_97 (by assumption) (by assumption) ?_
          refine r_callVN (pc := 100) (As := []) (k := 3) (N := 9) (T := T_Mg) k_On_157 im_Mg_hurtOfAll se_Mg_hurtOfAll rfl (by decide) rfl (by decide) d_On_on_100 aT' (c_Mg_hurtOfAll hA' ok3) rfl (Nat.le_of_ble_eq_true rfl) (by omega) (by omega) (by omega) (fun v S' I' J' hq => ?_)
          obtain ⟨rfl, rfl, rfl, rfl⟩ := hq
          refine r_goto (pc := 103) (tgt := 113) d_On_on_103 (by decide) ?_
          exact r_iret d_On_on_113 rfl (by omega) (by omega) (⟨⟨_, rfl⟩, Or.inr hS2, fr3, ok3.ah, rfl⟩)
      · obtain ⟨p, p1, p2⟩ := hb.resolve_left c4
        obtain ⟨mT, mA1, mA2, mR0, mR2, mR5, mR6, mR7, mR8, nS, nP, nB, nI0, mRp, mMp⟩ := hA'
        have hin : vp_in (nI p) 6 := vp_in_nI (by omega) (by omega)
        have hRc : qR S2 (33 + 1) (nI p).toNatClampNeg = some (qm 33 p) := by rw [qcl (by omega)]; exact mRp p (by omega)
        have hMT : qT S2 (qm 33 p) 2 := (mMp p (by omega)).1
        refine lda_n_4_0 (pc := 76) d_On_on_76 ?_
        refine g_On_27 (pc := 77) rfl d_On_on_77 (by assumption) (by assumption) ?_
        refine g_On_72 (pc := 80) rfl d_On_on_80 (by assumption) (by assumption) ?_
        refine ldi_n_4_2 (pc := 83) d_On_on_83 ?_
        refine r_bipush (pc := 84) (v := 10) d_On_on_84 rfl ?_
        refine r_isub (pc := 86) d_On_on_86 ?_
        rw [p2]
        refine r_aald14 (pc := 87) d_On_on_87 (by assumption) (by first | assumption | exact vp_in_nI (by omega) (by omega) | (unfold vp_in; decide)) (by assumption) ?_
        refine g_On_98 (pc := 88) rfl d_On_on_88 (by assumption) ?_
        exact r_iret d_On_on_91 rfl (by omega) (by omega) (⟨⟨_, rfl⟩, Or.inr hS2, fr3, ok3.ah, rfl⟩)
    · refine r_bipush (pc := 48) (v := (-2)) d_On_on_48 rfl ?_
      exact r_iret d_On_on_50 rfl (by omega) (by omega) (⟨⟨_, rfl⟩, Or.inl rfl, qFr.rf, h33, rfl⟩)
  have A : ∀ b : Int32, (b = 0 ∨ ∃ p, p < c ∧ x - 10 = nI p) → qW E y_On_on b_On_on (some .int) 5 0 0 (cAQ S I J w0) 0 0 22 [some (.ref (qb E + 0)), some (.int n), some (.int x), none] [.int b] S I J := by
    intro b hb
    refine sti_n_4_3 (pc := 22) d_On_on_22 rfl ?_
    refine ldi_n_4_2 (pc := 23) d_On_on_23 ?_
    refine r_if_eq (pc := 24) (tgt := 38) d_On_on_24 (by decide) (fun c1 => ?_) (fun c1 => ?_)
    · exact B b hb
    · refine ldi_n_4_2 (pc := 27) d_On_on_27 ?_
      refine r_iconst (pc := 28) (v := 1) d_On_on_28 rfl ?_
      refine r_icmp_eq (pc := 29) (tgt := 38) d_On_on_29 (by decide) (fun c2 => ?_) (fun c2 => ?_)
      · exact B b hb
      · refine ldi_n_4_3 (pc := 32) d_On_on_32 ?_
        refine r_if_ne (pc := 33) (tgt := 38) d_On_on_33 (by decide) (fun c3 => ?_) (fun c3 => ?_)
        · exact B b hb
        · refine r_iconst (pc := 36) (v := (-1)) d_On_on_36 rfl ?_
          exact r_iret d_On_on_37 rfl (by omega) (by omega) (⟨⟨_, rfl⟩, Or.inl rfl, qFr.rf, h33, rfl⟩)
  refine qMet.of (L := [some (.ref (qb E + 0)), some (.int n), some (.int x), none]) (by decide +kernel) (Nat.le_of_ble_eq_true rfl) rfl ?_
  refine ldi_n_4_2 (pc := 0) d_On_on_0 ?_
  refine r_bipush (pc := 1) (v := 10) d_On_on_1 rfl ?_
  refine r_icmp_lt (pc := 3) (tgt := 21) d_On_on_3 (by decide) (fun c1 => ?_) (fun c1 => ?_)
  · refine r_iconst (pc := 21) (v := 0) d_On_on_21 rfl ?_
    exact A 0 (Or.inl rfl)
  · refine lda_n_4_0 (pc := 6) d_On_on_6 ?_
    refine ldi_n_4_2 (pc := 7) d_On_on_7 ?_
    refine r_bipush (pc := 8) (v := 10) d_On_on_8 rfl ?_
    refine r_isub (pc := 10) d_On_on_10 ?_
    refine r_callV (pc := 11) (As := [.int (x - 10)]) (k := 8) (N := 11) (T := T_On) k_On_82 im_On_isMourner se_On_isMourner rfl (by decide) rfl (by decide) d_On_on_11 (by assumption) (c_On_isMourner hO0) rfl (Nat.le_of_ble_eq_true rfl) (by omega) (by omega) (by omega) (fun v S' I' J' hq => ?_)
    obtain ⟨rfl, rfl, rfl, rfl⟩ := hq
    rw [hc]
    refine r_if_eq (pc := 14) (tgt := 21) d_On_on_14 (by decide) (fun c2 => ?_) (fun c2 => ?_)
    · refine r_iconst (pc := 21) (v := 0) d_On_on_21 rfl ?_
      exact A 0 (Or.inl rfl)
    · refine r_iconst (pc := 17) (v := 1) d_On_on_17 rfl ?_
      refine r_goto (pc := 18) (tgt := 22) d_On_on_18 (by decide) ?_
      exact A 1 (Or.inr (qisM_y (by omega) c2))
theorem c_On_turn {x : Int32} {c : Nat} (hO : isOn S w0 w1 w2 bl) (hw : qW1 w0) (hok : qMgOK I 6 9999) (hI : qIsOK I w0) (h33 : cAh0 I) (hc : I 6 1 = nI c) (hc6 : c ≤ 6) : qMet E y_On_turn b_On_turn 3 (some .int) 5 0 0 [.ref (qb E + 0), .int x] S I J (cAQ S I J w0) := by
  have hO0 := hO
  obtain ⟨oT, oR0, oR1, oR2, oR3, oR5, oR6, oR8, oR9, oR10, hI1, hN, hA, hM3, hRe, hBl, hRo, hAc, tA, tR, tT⟩ := hO
  have aT := hA.1
  have nT := hN.1
  obtain ⟨ok2, is2, fr2⟩ := aBec hw hok hI h33
  have hO2 := hO0.set33 hN.is
  refine qMet.of (L := [some (.ref (qb E + 0)), some (.int x), none]) (by decide +kernel) (Nat.le_of_ble_eq_true rfl) rfl ?_
  refine lda_n_3_0 (pc := 0) d_On_turn_0 ?_
  refine ldi_n_3_1 (pc := 1) d_On_turn_1 ?_
  refine r_callV (pc := 2) (As := [.int x]) (k := 8) (N := 11) (T := T_On) k_On_82 im_On_isMourner se_On_isMourner rfl (by decide) rfl (by decide) d_On_turn_2 (by assumption) (c_On_isMourner hO0) rfl (Nat.le_of_ble_eq_true rfl) (by omega) (by omega) (by omega) (fun v S' I' J' hq => ?_)
  obtain ⟨rfl, rfl, rfl, rfl⟩ := hq
  rw [hc]
  refine r_if_ne (pc := 5) (tgt := 10) d_On_turn_5 (by decide) (fun c1 => ?_) (fun c1 => ?_)
  · obtain ⟨p, hp, rfl⟩ := qisM_y (by omega) c1
    refine lda_n_3_0 (pc := 10) d_On_turn_10 ?_
    refine g_On_27 (pc := 11) rfl d_On_turn_11 (by assumption) (by assumption) ?_
    refine lda_n_3_0 (pc := 14) d_On_turn_14 ?_
    refine g_On_23 (pc := 15) rfl d_On_turn_15 (by assumption) (by assumption) ?_
    refine r_callVN (pc := 18) (As := [.ref (qb E + 6)]) (k := 3) (N := 9) (T := T_Mg) k_On_179 im_Mg_becomes se_Mg_becomes rfl (by decide) rfl (by decide) d_On_turn_18 aT (c_Mg_becomes hA hN hok (by unfold qApM; omega)) rfl (Nat.le_of_ble_eq_true rfl) (by omega) (by omega) (by omega) (fun v S2 I2 J' hq => ?_)
    obtain ⟨rfl, hS2, rfl, rfl⟩ := hq
    have hO3 : isOn S2 w0 w0 w2 bl := by rw [hS2]; exact hO2
    obtain ⟨oT', oR0', oR1', oR2', oR3', oR5', oR6', oR8', oR9', oR10', hI1', hN', hA', -⟩ := hO3
    have hA0 := hA'
    obtain ⟨mT, mA1, mA2, mR0, mR2, mR5, mR6, mR7, mR8, nS, nP, nB, nI0, mRp, mMp⟩ := hA'
    have hin : vp_in (nI p) 6 := vp_in_nI (by omega) (by omega)
    have hRc : qR S2 (33 + 1) (nI p).toNatClampNeg = some (qm 33 p) := by rw [qcl (by omega)]; exact mRp p (by omega)
    have hMT : qT S2 (qm 33 p) 2 := (mMp p (by omega)).1
    have key : ∀ (m k : Nat) (K : qI), m + k = 61 → qMgOK K 33 (9999 + k) → qIsOK K w0 → qFr (aP w0) I K → qW E y_On_turn b_On_turn (some .int) 5 0 0 (cAQ S I J w0) 0 0 23 [some (.ref (qb E + 0)), some (.int (nI p)), some (.int (nI k))] [] S2 K J := by
      intro m
      induction m with
      | zero =>
        intro k K hk ok is fr
        refine ldi_n_3_2 (pc := 23) d_On_turn_23 ?_
        refine r_bipush (pc := 24) (v := 60) d_On_turn_24 rfl ?_
        refine r_icmp_gt (pc := 26) (tgt := 62) d_On_turn_26 (by decide) (fun c2 => ?_) (fun c2 => ?_)
        · refine r_bipush (pc := 62) (v := (-5)) d_On_turn_62 rfl ?_
          exact r_iret d_On_turn_64 rfl (by omega) (by omega) (⟨⟨_, rfl⟩, Or.inr hS2, fr, ok.ah, rfl⟩)
        · exact absurd (show nI 60 < nI k from nI_lt (by omega) (by omega)) c2
      | succ m ih =>
        intro k K hk ok is fr
        refine ldi_n_3_2 (pc := 23) d_On_turn_23 ?_
        refine r_bipush (pc := 24) (v := 60) d_On_turn_24 rfl ?_
        refine r_icmp_gt (pc := 26) (tgt := 62) d_On_turn_26 (by decide) (fun c2 => ?_) (fun c2 => ?_)
        · exact absurd c2 (Int32.not_lt.mpr (show nI k ≤ nI 60 from nI_le (by omega) (by omega)))
        · refine lda_n_3_0 (pc := 29) d_On_turn_29 ?_
          refine g_On_27 (pc := 30) rfl d_On_turn_30 (by assumption) (by assumption) ?_
          refine g_On_72 (pc := 33) rfl d_On_turn_33 (by assumption) (by assumption) ?_
          refine ldi_n_3_1 (pc := 36) d_On_turn_36 ?_
          refine r_aald14 (pc := 37) d_On_turn_37 (by assumption) (by first | assumption | exact vp_in_nI (by omega) (by omega) | (unfold vp_in; decide)) (by assumption) ?_
          refine g_On_101 (pc := 38) rfl d_On_turn_38 (by assumption) ?_
          refine r_if_eq (pc := 41) (tgt := 46) d_On_turn_41 (by decide) (fun c3 => ?_) (fun c3 => ?_)
          · refine lda_n_3_0 (pc := 46) d_On_turn_46 ?_
            refine g_On_27 (pc := 47) rfl d_On_turn_47 (by assumption) (by assumption) ?_
            refine r_iconst (pc := 50) (v := 1) d_On_turn_50 rfl ?_
            refine r_ldc (pc := 51) ct_On_183 d_On_turn_51 ?_
            refine r_callVN (pc := 53) (As := [.int (nI 1), .int 2147483647]) (k := 3) (N := 9) (T := T_Mg) k_On_175 im_Mg_go se_Mg_go rfl (by decide) rfl (by decide) d_On_turn_53 mT (c_Mg_go (n := 1) (D := 9999 + k) hA0 ok is (by unfold qApart; unfold qW1 at hw; omega) (by omega)) rfl (Nat.le_of_ble_eq_true rfl) (by omega) (by omega) (by omega) (fun v S' I3 J' hq => ?_)
            obtain ⟨rfl, rfl, hI3, rfl⟩ := hq
            obtain ⟨ok3, is3, fr3⟩ := aGo hw ok is fr hI3
            refine inc_3_2 (pc := 56) (w := 1) d_On_turn_56 rfl rfl ?_
            refine r_goto (pc := 59) (tgt := 23) d_On_turn_59 (by decide) ?_
            rw [q1]
            exact ih (k + 1) I3 (by omega) ok3 is3 fr3
          · refine ldi_n_3_2 (pc := 44) d_On_turn_44 ?_
            exact r_iret d_On_turn_45 rfl (by omega) (by omega) (⟨⟨_, rfl⟩, Or.inr hS2, fr, ok.ah, rfl⟩)
    refine r_iconst (pc := 21) (v := 0) d_On_turn_21 rfl ?_
    refine sti_n_3_2 (pc := 22) d_On_turn_22 rfl ?_
    exact key 61 0 _ rfl ok2 is2 fr2
  · refine r_iconst (pc := 8) (v := (-1)) d_On_turn_8 rfl ?_
    exact r_iret d_On_turn_9 rfl (by omega) (by omega) (⟨⟨_, rfl⟩, Or.inl rfl, qFr.rf, h33, rfl⟩)
theorem c_On_empty (hO : isOn S w0 w1 w2 bl) (hw : qW1 w0) (hok : qMgOK I 6 9999) (hI : qIsOK I w0) (h33 : cAh0 I) : qMet E y_On_empty b_On_empty 2 (some .int) 5 0 0 [.ref (qb E + 0)] S I J (cAQ S I J w0) := by
  have hO0 := hO
  obtain ⟨oT, oR0, oR1, oR2, oR3, oR5, oR6, oR8, oR9, oR10, hI1, hN, hA, hM3, hRe, hBl, hRo, hAc, tA, tR, tT⟩ := hO
  have aT := hA.1
  have nT := hN.1
  obtain ⟨ok2, is2, fr2⟩ := aBec hw hok hI h33
  have hO2 := hO0.set33 hN.is
  refine qMet.of (L := [some (.ref (qb E + 0)), none]) (by decide +kernel) (Nat.le_of_ble_eq_true rfl) rfl ?_
  refine lda_n_2_0 (pc := 0) d_On_empty_0 ?_
  refine g_On_27 (pc := 1) rfl d_On_empty_1 (by assumption) (by assumption) ?_
  refine lda_n_2_0 (pc := 4) d_On_empty_4 ?_
  refine g_On_23 (pc := 5) rfl d_On_empty_5 (by assumption) (by assumption) ?_
  refine r_callVN (pc := 8) (As := [.ref (qb E + 6)]) (k := 3) (N := 9) (T := T_Mg) k_On_179 im_Mg_becomes se_Mg_becomes rfl (by decide) rfl (by decide) d_On_empty_8 aT (c_Mg_becomes hA hN hok (by unfold qApM; omega)) rfl (Nat.le_of_ble_eq_true rfl) (by omega) (by omega) (by omega) (fun v S2 I2 J' hq => ?_)
  obtain ⟨rfl, hS2, rfl, rfl⟩ := hq
  have hO3 : isOn S2 w0 w0 w2 bl := by rw [hS2]; exact hO2
  obtain ⟨oT', oR0', oR1', oR2', oR3', oR5', oR6', oR8', oR9', oR10', hI1', hN', hA', -⟩ := hO3
  have mT := hA'.1
  have key : ∀ (m k : Nat) (K : qI), m + k = 61 → qMgOK K 33 (9999 + k) → qIsOK K w0 → qFr (aP w0) I K → qW E y_On_empty b_On_empty (some .int) 5 0 0 (cAQ S I J w0) 0 0 13 [some (.ref (qb E + 0)), some (.int (nI k))] [] S2 K J := by
    intro m
    induction m with
    | zero =>
      intro k K hk ok is fr
      refine ldi_n_2_1 (pc := 13) d_On_empty_13 ?_
      refine r_bipush (pc := 14) (v := 60) d_On_empty_14 rfl ?_
      refine r_icmp_gt (pc := 16) (tgt := 54) d_On_empty_16 (by decide) (fun c2 => ?_) (fun c2 => ?_)
      · refine r_bipush (pc := 54) (v := (-5)) d_On_empty_54 rfl ?_
        exact r_iret d_On_empty_56 rfl (by omega) (by omega) (⟨⟨_, rfl⟩, Or.inr hS2, fr, ok.ah, rfl⟩)
      · exact absurd (show nI 60 < nI k from nI_lt (by omega) (by omega)) c2
    | succ m ih =>
      intro k K hk ok is fr
      refine ldi_n_2_1 (pc := 13) d_On_empty_13 ?_
      refine r_bipush (pc := 14) (v := 60) d_On_empty_14 rfl ?_
      refine r_icmp_gt (pc := 16) (tgt := 54) d_On_empty_16 (by decide) (fun c2 => ?_) (fun c2 => ?_)
      · exact absurd c2 (Int32.not_lt.mpr (show nI k ≤ nI 60 from nI_le (by omega) (by omega)))
      · refine lda_n_2_0 (pc := 19) d_On_empty_19 ?_
        refine g_On_27 (pc := 20) rfl d_On_empty_20 (by assumption) (by assumption) ?_
        refine r_callVN (pc := 23) (As := []) (k := 3) (N := 9) (T := T_Mg) k_On_161 im_Mg_howManyDone se_Mg_howManyDone rfl (by decide) rfl (by decide) d_On_empty_23 mT (c_Mg_howManyDone hA' ok) rfl (Nat.le_of_ble_eq_true rfl) (by omega) (by omega) (by omega) (fun v S' I' J' hq => ?_)
        obtain ⟨rfl, rfl, rfl, rfl⟩ := hq
        refine lda_n_2_0 (pc := 26) d_On_empty_26 ?_
        refine g_On_27 (pc := 27) rfl d_On_empty_27 (by assumption) (by assumption) ?_
        refine g_On_68 (pc := 30) rfl d_On_empty_30 (by assumption) ?_
        refine r_icmp_ne (pc := 33) (tgt := 38) d_On_empty_33 (by decide) (fun c3 => ?_) (fun c3 => ?_)
        · refine lda_n_2_0 (pc := 38) d_On_empty_38 ?_
          refine g_On_27 (pc := 39) rfl d_On_empty_39 (by assumption) (by assumption) ?_
          refine r_iconst (pc := 42) (v := 1) d_On_empty_42 rfl ?_
          refine r_ldc (pc := 43) ct_On_183 d_On_empty_43 ?_
          refine r_callVN (pc := 45) (As := [.int (nI 1), .int 2147483647]) (k := 3) (N := 9) (T := T_Mg) k_On_175 im_Mg_go se_Mg_go rfl (by decide) rfl (by decide) d_On_empty_45 mT (c_Mg_go (n := 1) (D := 9999 + k) hA' ok is (by unfold qApart; unfold qW1 at hw; omega) (by omega)) rfl (Nat.le_of_ble_eq_true rfl) (by omega) (by omega) (by omega) (fun v S' I3 J' hq => ?_)
          obtain ⟨rfl, rfl, hI3, rfl⟩ := hq
          obtain ⟨ok3, is3, fr3⟩ := aGo hw ok is fr hI3
          refine inc_2_1 (pc := 48) (w := 1) d_On_empty_48 rfl rfl ?_
          refine r_goto (pc := 51) (tgt := 13) d_On_empty_51 (by decide) ?_
          rw [q1]
          exact ih (k + 1) I3 (by omega) ok3 is3 fr3
        · refine ldi_n_2_1 (pc := 36) d_On_empty_36 ?_
          exact r_iret d_On_empty_37 rfl (by omega) (by omega) (⟨⟨_, rfl⟩, Or.inr hS2, fr, ok.ah, rfl⟩)
  refine r_iconst (pc := 11) (v := 0) d_On_empty_11 rfl ?_
  refine sti_n_2_1 (pc := 12) d_On_empty_12 rfl ?_
  exact key 61 0 _ rfl ok2 is2 fr2
theorem c_On_ends {x : Int32} (hO : isOn S w0 w1 w2 bl) (hw : qW1 w0) (hok : qMgOK I 6 9999) (hI : qIsOK I w0) (h33 : cAh0 I) : qMet E y_On_ends b_On_ends 2 (some .int) 6 0 0 [.ref (qb E + 0), .int x] S I J (cAQ S I J w0) := by
  have hO0 := hO
  obtain ⟨oT, oR0, oR1, oR2, oR3, oR5, oR6, oR8, oR9, oR10, hI1, hN, hA, hM3, hRe, hBl, hRo, hAc, tA, tR, tT⟩ := hO
  have aT := hA.1
  have nT := hN.1
  obtain ⟨ok2, is2, fr2⟩ := aBec hw hok hI h33
  have hO2 := hO0.set33 hN.is
  refine qMet.of (L := [some (.ref (qb E + 0)), some (.int x)]) (by decide +kernel) (Nat.le_of_ble_eq_true rfl) rfl ?_
  refine ldi_n_2_1 (pc := 0) d_On_ends_0 ?_
  refine r_iconst (pc := 1) (v := 0) d_On_ends_1 rfl ?_
  refine r_iconst (pc := 2) (v := 1) d_On_ends_2 rfl ?_
  refine r_callS (pc := 3) (As := [.int x, .int 0, .int 1]) k_On_64 sw_On_within rfl (by decide) d_On_ends_3 (c_On_within _ _ _) rfl (Nat.le_of_ble_eq_true rfl) (by omega) (by omega) (by omega) (fun v S' I' J' hq => ?_)
  obtain ⟨rfl, rfl, rfl, rfl⟩ := hq
  refine r_if_ne (pc := 6) (tgt := 11) d_On_ends_6 (by decide) (fun c1 => ?_) (fun c1 => ?_)
  · refine lda_n_2_0 (pc := 11) d_On_ends_11 ?_
    refine g_On_27 (pc := 12) rfl d_On_ends_12 (by assumption) (by assumption) ?_
    refine lda_n_2_0 (pc := 15) d_On_ends_15 ?_
    refine g_On_23 (pc := 16) rfl d_On_ends_16 (by assumption) (by assumption) ?_
    refine r_callVN (pc := 19) (As := [.ref (qb E + 6)]) (k := 3) (N := 9) (T := T_Mg) k_On_179 im_Mg_becomes se_Mg_becomes rfl (by decide) rfl (by decide) d_On_ends_19 aT (c_Mg_becomes hA hN hok (by unfold qApM; omega)) rfl (Nat.le_of_ble_eq_true rfl) (by omega) (by omega) (by omega) (fun v S2 I2 J' hq => ?_)
    obtain ⟨rfl, hS2, rfl, rfl⟩ := hq
    have hO3 : isOn S2 w0 w0 w2 bl := by rw [hS2]; exact hO2
    obtain ⟨oT', oR0', oR1', oR2', oR3', oR5', oR6', oR8', oR9', oR10', hI1', hN', hA', -⟩ := hO3
    have mT := hA'.1
    refine lda_n_2_0 (pc := 22) d_On_ends_22 ?_
    refine g_On_27 (pc := 23) rfl d_On_ends_23 (by assumption) (by assumption) ?_
    refine r_callVN (pc := 26) (As := []) (k := 3) (N := 9) (T := T_Mg) k_On_235 im_Mg_goByPlan se_Mg_goByPlan rfl (by decide) rfl (by decide) d_On_ends_26 mT (c_Mg_goByPlan hA' ok2 is2 (by unfold qApart; unfold qW1 at hw; omega) (by omega)) rfl (Nat.le_of_ble_eq_true rfl) (by omega) (by omega) (by omega) (fun v S' I3 J' hq => ?_)
    obtain ⟨rfl, rfl, hI3, rfl⟩ := hq
    obtain ⟨ok3, fr3⟩ := aPlan hw ok2 fr2 hI3
    refine ldi_n_2_1 (pc := 29) d_On_ends_29 ?_
    refine r_if_ne (pc := 30) (tgt := 43) d_On_ends_30 (by decide) (fun c2 => ?_) (fun c2 => ?_)
    · refine lda_n_2_0 (pc := 43) d_On_ends_43 ?_
      refine g_On_27 (pc := 44) rfl d_On_ends_44 (by assumption) (by assumption) ?_
      refine r_callVN (pc := 47) (As := []) (k := 3) (N := 9) (T := T_Mg) k_On_161 im_Mg_howManyDone se_Mg_howManyDone rfl (by decide) rfl (by decide) d_On_ends_47 mT (c_Mg_howManyDone hA' ok3) rfl (Nat.le_of_ble_eq_true rfl) (by omega) (by omega) (by omega) (fun v S' I' J' hq => ?_)
      obtain ⟨rfl, rfl, rfl, rfl⟩ := hq
      exact r_iret d_On_ends_50 rfl (by omega) (by omega) (⟨⟨_, rfl⟩, Or.inr hS2, fr3, ok3.ah, rfl⟩)
    · refine lda_n_2_0 (pc := 33) d_On_ends_33 ?_
      refine g_On_27 (pc := 34) rfl d_On_ends_34 (by assumption) (by assumption) ?_
      refine r_callVN (pc := 37) (As := []) (k := 3) (N := 9) (T := T_Mg) k_On_157 im_Mg_hurtOfAll se_Mg_hurtOfAll rfl (by decide) rfl (by decide) d_On_ends_37 mT (c_Mg_hurtOfAll hA' ok3) rfl (Nat.le_of_ble_eq_true rfl) (by omega) (by omega) (by omega) (fun v S' I' J' hq => ?_)
      obtain ⟨rfl, rfl, rfl, rfl⟩ := hq
      refine r_goto (pc := 40) (tgt := 50) d_On_ends_40 (by decide) ?_
      exact r_iret d_On_ends_50 rfl (by omega) (by omega) (⟨⟨_, rfl⟩, Or.inr hS2, fr3, ok3.ah, rfl⟩)
  · refine r_iconst (pc := 9) (v := (-1)) d_On_ends_9 rfl ?_
    exact r_iret d_On_ends_10 rfl (by omega) (by omega) (⟨⟨_, rfl⟩, Or.inl rfl, qFr.rf, h33, rfl⟩)
end H4
