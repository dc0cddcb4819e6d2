/-! the object's calls on AHEAD, told exactly -/
/-- ahead: as the living are, k days on -/
def cah (I : qI) (w0 k : Nat) : qI := qgoN (qmbec I 33 6) 33 w0 2147483647 k
def cpl (I : qI) (w0 : Nat) : qI := qplanN (qmbec I 33 6) 33 w0 (qmbec I 33 6 (33 + 7) 3).toNatClampNeg
def aOn (c : Nat) (n x : Int32) (h d : Nat → Int32) (o : Nat → Nat → Int32) : Int32 := if x = 0 ∨ x = 1 ∨ ¬ qwithin (x - 10) 0 (nI c - 1) = 0 then (if qwithin n 0 60 = 0 then -2 else if x = 0 then h n.toNatClampNeg else if x = 1 then d n.toNatClampNeg else o n.toNatClampNeg (x - 10).toNatClampNeg) else -1
def aTurn (f : Nat → Int32) : Nat → Nat → Int32
  | 0, _ => -5
  | r + 1, k => if f k = 0 then aTurn f r (k + 1) else nI k
def ca_on (I : qI) (w0 c : Nat) (n x : Int32) : Int32 := aOn c n x (fun k => qhurts (cah I w0 k) 33) (fun k => qdones (cah I w0 k) 33) (fun k p => cah I w0 k (qm 33 p) 5)
def ca_turn (I : qI) (w0 c : Nat) (x : Int32) : Int32 := if qwithin x 0 (nI c - 1) = 0 then -1 else aTurn (fun k => cah I w0 k (qm 33 x.toNatClampNeg) 6) 61 0
def ca_empty (I : qI) (w0 : Nat) : Int32 := aTurn (fun k => if qdones (cah I w0 k) 33 = cah I w0 k 33 1 then 1 else 0) 61 0
def ca_ends (I : qI) (w0 : Nat) (x : Int32) : Int32 := if qwithin x 0 1 = 0 then -1 else if x = 0 then qhurts (cpl I w0) 33 else qdones (cpl I w0) 33
/-- their numbers -/
def n33 (I I' : qI) : Prop := ∀ p, p < 6 → I' (qm 33 p) 0 = I (qm 33 p) 0
theorem n33.rf {I : qI} : n33 I I := fun _ _ => rfl
theorem n33.tr {I I' I2 : qI} (h : n33 I I') (h2 : n33 I' I2) : n33 I I2 := fun p hp => (h2 p hp).trans (h p hp)
theorem n33.eq {I I' : qI} {w : Nat} (hw : qW1 w) (h : qEq (w + 4) I I') : n33 I I' := fun p hp => by
  unfold qW1 at hw
  rw [h (qm 33 p) (by unfold qm; omega)]
theorem qbecN_z {I : qI} {o q x : Nat} : ∀ n, n ≤ 6 → qbecN I o q n (qm o x) 0 = I (qm o x) 0 := by
  intro n
  induction n with
  | zero => intro _; rfl
  | succ n ih =>
    intro hn
    rw [qbecN]
    unfold qbecomes
    rw [qfil_o (by unfold qm; omega), qup_j (by decide), qup_j (by decide), qup_j (by decide), qup_j (by decide), qup_j (by decide), qup_j (by decide)]
    exact ih (by omega)
theorem n33.bec {I : qI} {D : Nat} (hok : qMgOK I 6 D) : n33 I (qmbec I 33 6) := fun p hp => by
  obtain ⟨⟨c, c6, hc⟩, -⟩ := hok
  rw [qmbec_m hc c6 hp, qbecN_z c c6, qup_j (by decide)]
theorem qgoP_0 {I : qI} {o i p a : Nat} {hv most : Int32} : qgoP I o i hv most p a 0 = I a 0 := by
  unfold qgoP
  split
  · rw [qup_j (by decide)]
  · split
    · rw [qup_j (by decide), qup_j (by decide)]
    · rfl
theorem qgoPs_0 {I : qI} {o i a : Nat} {hv most : Int32} : ∀ n, qgoPs I o i hv most n a 0 = I a 0 := by
  intro n
  induction n with
  | zero => rfl
  | succ n ih => rw [qgoPs, qgoP_0, ih]
theorem qgo1_0 {I : qI} {o i a : Nat} {most : Int32} : qgo1 I o i most a 0 = I a 0 := by
  unfold qgo1
  rw [qup_j (by decide), qgoPs_0]
theorem qgoN_0 {I : qI} {o i a : Nat} {most : Int32} : ∀ n, qgoN I o i most n a 0 = I a 0 := by
  intro n
  induction n with
  | zero => rfl
  | succ n ih => rw [qgoN, qgo1_0, ih]
theorem qplanN_0 {I : qI} {o i a : Nat} : ∀ n, qplanN I o i n a 0 = I a 0 := by
  intro n
  induction n with
  | zero => rfl
  | succ n ih =>
    rw [qplanN]
    unfold qplan1
    split
    · rw [qgoN_0, ih]
    · split
      · exact ih
      · split
        · rw [qup_j (by decide), ih]
        · rw [qup_j (by decide), ih]
theorem qsumP_cg {f g : Nat → Int32} : ∀ n, (∀ p, p < n → f p = g p) → qsumP f n = qsumP g n := by
  intro n
  induction n with
  | zero => intro _; rfl
  | succ n ih => intro h; rw [qsumP, qsumP, ih (fun p hp => h p (by omega)), h n (by omega)]
theorem qhurts_eq {K K2 : qI} {w c : Nat} (hw : qW1 w) (hc : K 33 1 = nI c) (c6 : c ≤ 6) (h : qEq (w + 4) K K2) : qhurts K2 33 = qhurts K 33 ∧ qdones K2 33 = qdones K 33 := by
  unfold qW1 at hw
  unfold qhurts qdones
  rw [h 33 (by omega), hc, qcl (by omega)]
  exact ⟨qsumP_cg c (fun p hp => by rw [h (qm 33 p) (by unfold qm; omega)]), qsumP_cg c (fun p hp => by rw [h (qm 33 p) (by unfold qm; omega)])⟩
abbrev cAX (S : qSh) (I : qI) (J : qJ) (w0 : Nat) (r : Int32) : qPost := fun v S' I' J' => v = some (.int r) ∧ (S' = S ∨ S' = qsetR S 33 5 (some w0)) ∧ qFr (aP w0) I I' ∧ cAh0 I' ∧ J = J' ∧ n33 I I'
section U0
variable {E : qE} {S : qSh} {I : qI} {J : qJ} {w0 w1 w2 bl : Nat}
theorem c_On_onX {n x : Int32} {c : Nat} (hO : isOn S w0 w1 w2 bl) (hw : qW1 w0) (hok : qMgOK I 6 9999) (hI : qIsOK I w0) (h33 : cAh0 I) (hc : I 6 1 = nI c) (hc6 : c ≤ 6) : qMet E y_On_on b_On_on 4 (some .int) 5 0 0 [.ref (qb E + 0), .int n, .int x] S I J (cAX S I J w0 (ca_on I w0 c n x)) := by
  have hO0 := hO
  obtain ⟨oT, oR0, oR1, oR2, oR3, oR5, oR6, oR8, oR9, oR10, hI1, hN, hA, hM3, hRe, hBl, hRo, hAc, tA, tR, tT⟩ := hO
  have aT := hA.1
  have nT := hN.1
  obtain ⟨ok2, is2, fr2⟩ := aBec hw hok hI h33
  have n2 := n33.bec hok
  have hO2 := hO0.set33 hN.is
  generalize hR : ca_on I w0 c n x = R
  unfold ca_on aOn at hR
  have B : ∀ b : Int32, ((b = 0 ∧ (x = 0 ∨ x = 1)) ∨ (b = 1 ∧ ∃ p, p < c ∧ x - 10 = nI p)) → qW E y_On_on b_On_on (some .int) 5 0 0 (cAX S I J w0 R) 0 0 38 [some (.ref (qb E + 0)), some (.int n), some (.int x), some (.int b)] [] S I J := by
    intro b hb
    have good : x = 0 ∨ x = 1 ∨ ¬ qwithin (x - 10) 0 (nI c - 1) = 0 := by
      rcases hb with ⟨-, q | q⟩ | ⟨-, p, p1, p2⟩
      · exact Or.inl q
      · exact Or.inr (Or.inl q)
      · exact Or.inr (Or.inr (by rw [p2, qisM_p (by omega) p1]; decide))
    rw [if_pos good] at hR
    refine ldi_n_4_1 (pc := 38) d_On_on_38 ?_
    refine r_iconst (pc := 39) (v := 0) d_On_on_39 rfl ?_
    refine r_bipush (pc := 40) (v := 60) d_On_on_40 rfl ?_
    refine r_callS (pc := 42) (As := [.int n, .int 0, .int 60]) k_On_64 sw_On_within rfl (by decide) d_On_on_42 (c_On_within _ _ _) rfl (Nat.le_of_ble_eq_true rfl) (by omega) (by omega) (by omega) (fun v S' I' J' hq => ?_)
    obtain ⟨rfl, rfl, rfl, rfl⟩ := hq
    refine r_if_ne (pc := 45) (tgt := 51) d_On_on_45 (by decide) (fun c1 => ?_) (fun c1 => ?_)
    · rw [if_neg c1] at hR
      obtain ⟨g1, g2⟩ := qwithin_y c1
      obtain ⟨m, m1, rfl⟩ := nI_of2 (M := 60) (n := 60) rfl (Int32.not_lt.mpr g1) g2
      rw [qcl (n := m) (by omega)] at hR
      refine lda_n_4_0 (pc := 51) d_On_on_51 ?_
      refine g_On_27 (pc := 52) rfl d_On_on_52 (by assumption) (by assumption) ?_
      refine lda_n_4_0 (pc := 55) d_On_on_55 ?_
      refine g_On_23 (pc := 56) rfl d_On_on_56 (by assumption) (by assumption) ?_
      refine r_callVN (pc := 59) (As := [.ref (qb E + 6)]) (k := 3) (N := 9) (T := T_Mg) k_On_179 im_Mg_becomes se_Mg_becomes rfl (by decide) rfl (by decide) d_On_on_59 aT (c_Mg_becomes hA hN hok (by unfold qApM; omega)) rfl (Nat.le_of_ble_eq_true rfl) (by omega) (by omega) (by omega) (fun v S2 I2 J' hq => ?_)
      obtain ⟨rfl, hS2, rfl, rfl⟩ := hq
      have hO3 : isOn S2 w0 w0 w2 bl := by rw [hS2]; exact hO2
      obtain ⟨oT', oR0', oR1', oR2', oR3', oR5', oR6', oR8', oR9', oR10', hI1', hN', hA', -⟩ := hO3
      have aT' := hA'.1
      refine lda_n_4_0 (pc := 62) d_On_on_62 ?_
      refine g_On_27 (pc := 63) rfl d_On_on_63 (by assumption) (by assumption) ?_
      refine ldi_n_4_1 (pc := 66) d_On_on_66 ?_
      refine r_ldc (pc := 67) ct_On_183 d_On_on_67 ?_
      refine r_callVN (pc := 69) (As := [.int (nI m), .int 2147483647]) (k := 3) (N := 9) (T := T_Mg) k_On_175 im_Mg_go se_Mg_go rfl (by decide) rfl (by decide) d_On_on_69 aT' (c_Mg_go (n := m) (D := 9999) hA' ok2 is2 (by unfold qApart; unfold qW1 at hw; omega) (by omega)) rfl (Nat.le_of_ble_eq_true rfl) (by omega) (by omega) (by omega) (fun v S' I3 J' hq => ?_)
      obtain ⟨rfl, rfl, hI3, rfl⟩ := hq
      obtain ⟨ok3, is3, fr3⟩ := aGo hw ok2 is2 fr2 hI3
      have n3 : n33 I I3 := (n2.tr (fun p _ => qgoN_0 m)).tr (n33.eq hw hI3)
      obtain ⟨cc, cc6, hcc⟩ := (ok2.goN (i := w0) (most := 2147483647) m).1
      obtain ⟨eh, ed⟩ := qhurts_eq hw hcc cc6 hI3
      change qhurts I3 33 = qhurts (cah I w0 m) 33 at eh
      change qdones I3 33 = qdones (cah I w0 m) 33 at ed
      refine ldi_n_4_3 (pc := 72) d_On_on_72 ?_
      refine r_if_eq (pc := 73) (tgt := 92) d_On_on_73 (by decide) (fun c4 => ?_) (fun c4 => ?_)
      · obtain ⟨-, hx⟩ := hb.resolve_right (fun q => absurd (q.1.symm.trans c4) (by decide))
        refine ldi_n_4_2 (pc := 92) d_On_on_92 ?_
        refine r_if_ne (pc := 93) (tgt := 106) d_On_on_93 (by decide) (fun c5 => ?_) (fun c5 => ?_)
        · rw [if_neg c5, if_pos (hx.resolve_left c5)] at hR
          refine lda_n_4_0 (pc := 106) d_On_on_106 ?_
          refine g_On_27 (pc := 107) rfl d_On_on_107 (by assumption) (by assumption) ?_
          refine r_callVN (pc := 110) (As := []) (k := 3) (N := 9) (T := T_Mg) k_On_161 im_Mg_howManyDone se_Mg_howManyDone rfl (by decide) rfl (by decide) d_On_on_110 aT' (c_Mg_howManyDone hA' ok3) rfl (Nat.le_of_ble_eq_true rfl) (by omega) (by omega) (by omega) (fun v S' I' J' hq => ?_)
          obtain ⟨rfl, rfl, rfl, rfl⟩ := hq
          exact r_iret d_On_on_113 rfl (by omega) (by omega) (⟨by rw [ed, ← hR], Or.inr hS2, fr3, ok3.ah, rfl, n3⟩)
        · rw [if_pos c5] at hR
          refine lda_n_4_0 (pc := 96) d_On_on_96 ?_
          refine g_On_27 (pc := 97) rfl d_On_on_97 (by assumption) (by assumption) ?_
          refine r_callVN (pc := 100) (As := []) (k := 3) (N := 9) (T := T_Mg) k_On_157 im_Mg_hurtOfAll se_Mg_hurtOfAll rfl (by decide) rfl (by decide) d_On_on_100 aT' (c_Mg_hurtOfAll hA' ok3) rfl (Nat.le_of_ble_eq_true rfl) (by omega) (by omega) (by omega) (fun v S' I' J' hq => ?_)
          obtain ⟨rfl, rfl, rfl, rfl⟩ := hq
          refine r_goto (pc := 103) (tgt := 113) d_On_on_103 (by decide) ?_
          exact r_iret d_On_on_113 rfl (by omega) (by omega) (⟨by rw [eh, ← hR], Or.inr hS2, fr3, ok3.ah, rfl, n3⟩)
      · obtain ⟨-, p, p1, p2⟩ := hb.resolve_left (fun q => c4 q.1)
        obtain ⟨mT, mA1, mA2, mR0, mR2, mR5, mR6, mR7, mR8, nS, nP, nB, nI0, mRp, mMp⟩ := hA'
        have hin : vp_in (nI p) 6 := vp_in_nI (by omega) (by omega)
        have hRc : qR S2 (33 + 1) (nI p).toNatClampNeg = some (qm 33 p) := by rw [qcl (by omega)]; exact mRp p (by omega)
        have hMT : qT S2 (qm 33 p) 2 := (mMp p (by omega)).1
        have x0 : ¬ x = 0 := fun q => by
          rw [q] at p2
          have : ∀ p, p < 6 → ¬ (0 : Int32) - 10 = nI p := by decide
          exact this p (by omega) p2
        have x1 : ¬ x = 1 := fun q => by
          rw [q] at p2
          have : ∀ p, p < 6 → ¬ (1 : Int32) - 10 = nI p := by decide
          exact this p (by omega) p2
        have e5 : I3 (qm 33 p) 5 = cah I w0 m (qm 33 p) 5 := by rw [hI3 (qm 33 p) (by unfold qW1 at hw; unfold qm; omega)]; rfl
        rw [if_neg x0, if_neg x1, p2, qcl (n := p) (by omega)] at hR
        refine lda_n_4_0 (pc := 76) d_On_on_76 ?_
        refine g_On_27 (pc := 77) rfl d_On_on_77 (by assumption) (by assumption) ?_
        refine g_On_72 (pc := 80) rfl d_On_on_80 (by assumption) (by assumption) ?_
        refine ldi_n_4_2 (pc := 83) d_On_on_83 ?_
        refine r_bipush (pc := 84) (v := 10) d_On_on_84 rfl ?_
        refine r_isub (pc := 86) d_On_on_86 ?_
        rw [p2]
        refine r_aald14 (pc := 87) d_On_on_87 (by assumption) (by first | assumption | exact vp_in_nI (by omega) (by omega) | (unfold vp_in; decide)) (by assumption) ?_
        refine g_On_98 (pc := 88) rfl d_On_on_88 (by assumption) ?_
        exact r_iret d_On_on_91 rfl (by omega) (by omega) (⟨by rw [e5, ← hR], Or.inr hS2, fr3, ok3.ah, rfl, n3⟩)
    · rw [if_pos c1] at hR
      refine r_bipush (pc := 48) (v := (-2)) d_On_on_48 rfl ?_
      exact r_iret d_On_on_50 rfl (by omega) (by omega) (⟨by rw [← hR], Or.inl rfl, qFr.rf, h33, rfl, n33.rf⟩)
  have A : ∀ b : Int32, ((b = 0 ∧ (x < 10 ∨ qwithin (x - 10) 0 (nI c - 1) = 0)) ∨ (b = 1 ∧ ∃ p, p < c ∧ x - 10 = nI p)) → qW E y_On_on b_On_on (some .int) 5 0 0 (cAX S I J w0 R) 0 0 22 [some (.ref (qb E + 0)), some (.int n), some (.int x), none] [.int b] S I J := by
    intro b hb
    have toB : (x = 0 ∨ x = 1) → (b = 0 ∧ (x = 0 ∨ x = 1)) ∨ (b = 1 ∧ ∃ p, p < c ∧ x - 10 = nI p) := fun hx => by
      rcases hb with ⟨q, -⟩ | q
      · exact Or.inl ⟨q, hx⟩
      · exact Or.inr q
    refine sti_n_4_3 (pc := 22) d_On_on_22 rfl ?_
    refine ldi_n_4_2 (pc := 23) d_On_on_23 ?_
    refine r_if_eq (pc := 24) (tgt := 38) d_On_on_24 (by decide) (fun c1 => ?_) (fun c1 => ?_)
    · exact B b (toB (Or.inl c1))
    · refine ldi_n_4_2 (pc := 27) d_On_on_27 ?_
      refine r_iconst (pc := 28) (v := 1) d_On_on_28 rfl ?_
      refine r_icmp_eq (pc := 29) (tgt := 38) d_On_on_29 (by decide) (fun c2 => ?_) (fun c2 => ?_)
      · exact B b (toB (Or.inr c2))
      · refine ldi_n_4_3 (pc := 32) d_On_on_32 ?_
        refine r_if_ne (pc := 33) (tgt := 38) d_On_on_33 (by decide) (fun c3 => ?_) (fun c3 => ?_)
        · refine B b (Or.inr (hb.resolve_left (fun q => c3 q.1)))
        · have b0 : b = 0 := by
            exact c3
          have bad : ¬ (x = 0 ∨ x = 1 ∨ ¬ qwithin (x - 10) 0 (nI c - 1) = 0) := fun q => by
            rcases q with q | q | q
            · exact c1 q
            · exact c2 q
            · obtain ⟨-, hb2⟩ := hb.resolve_right (fun z => absurd (z.1.symm.trans b0) (by decide))
              obtain ⟨p, p1, p2⟩ := qisM_y (show c < 2 ^ 31 by omega) q
              rcases hb2 with z | z
              · have e : x = nI p + 10 := by rw [← p2, Int32.sub_add_cancel]
                have : ∀ p, p < 6 → ¬ nI p + 10 < 10 := by decide
                exact this p (by omega) (by rw [← e]; exact z)
              · exact q z
          rw [if_neg bad] at hR
          refine r_iconst (pc := 36) (v := (-1)) d_On_on_36 rfl ?_
          exact r_iret d_On_on_37 rfl (by omega) (by omega) (⟨by rw [← hR], Or.inl rfl, qFr.rf, h33, rfl, n33.rf⟩)
  refine qMet.of (L := [some (.ref (qb E + 0)), some (.int n), some (.int x), none]) (by decide +kernel) (Nat.le_of_ble_eq_true rfl) rfl ?_
  refine ldi_n_4_2 (pc := 0) d_On_on_0 ?_
  refine r_bipush (pc := 1) (v := 10) d_On_on_1 rfl ?_
  refine r_icmp_lt (pc := 3) (tgt := 21) d_On_on_3 (by decide) (fun c1 => ?_) (fun c1 => ?_)
  · refine r_iconst (pc := 21) (v := 0) d_On_on_21 rfl ?_
    exact A 0 (Or.inl ⟨rfl, Or.inl c1⟩)
  · refine lda_n_4_0 (pc := 6) d_On_on_6 ?_
    refine ldi_n_4_2 (pc := 7) d_On_on_7 ?_
    refine r_bipush (pc := 8) (v := 10) d_On_on_8 rfl ?_
    refine r_isub (pc := 10) d_On_on_10 ?_
    refine r_callV (pc := 11) (As := [.int (x - 10)]) (k := 8) (N := 11) (T := T_On) k_On_82 im_On_isMourner se_On_isMourner rfl (by decide) rfl (by decide) d_On_on_11 (by assumption) (c_On_isMourner hO0) rfl (Nat.le_of_ble_eq_true rfl) (by omega) (by omega) (by omega) (fun v S' I' J' hq => ?_)
    obtain ⟨rfl, rfl, rfl, rfl⟩ := hq
    rw [hc]
    refine r_if_eq (pc := 14) (tgt := 21) d_On_on_14 (by decide) (fun c2 => ?_) (fun c2 => ?_)
    · refine r_iconst (pc := 21) (v := 0) d_On_on_21 rfl ?_
      exact A 0 (Or.inl ⟨rfl, Or.inr c2⟩)
    · refine r_iconst (pc := 17) (v := 1) d_On_on_17 rfl ?_
      refine r_goto (pc := 18) (tgt := 22) d_On_on_18 (by decide) ?_
      exact A 1 (Or.inr ⟨rfl, qisM_y (by omega) c2⟩)
theorem c_On_turnX {x : Int32} {c : Nat} (hO : isOn S w0 w1 w2 bl) (hw : qW1 w0) (hok : qMgOK I 6 9999) (hI : qIsOK I w0) (h33 : cAh0 I) (hc : I 6 1 = nI c) (hc6 : c ≤ 6) : qMet E y_On_turn b_On_turn 3 (some .int) 5 0 0 [.ref (qb E + 0), .int x] S I J (cAX S I J w0 (ca_turn I w0 c x)) := by
  have hO0 := hO
  obtain ⟨oT, oR0, oR1, oR2, oR3, oR5, oR6, oR8, oR9, oR10, hI1, hN, hA, hM3, hRe, hBl, hRo, hAc, tA, tR, tT⟩ := hO
  have aT := hA.1
  have nT := hN.1
  obtain ⟨ok2, is2, fr2⟩ := aBec hw hok hI h33
  have n2 := n33.bec hok
  have hO2 := hO0.set33 hN.is
  generalize hR : ca_turn I w0 c x = R
  unfold ca_turn at hR
  have hap : qApart 33 w0 := by unfold qApart; unfold qW1 at hw; omega
  refine qMet.of (L := [some (.ref (qb E + 0)), some (.int x), none]) (by decide +kernel) (Nat.le_of_ble_eq_true rfl) rfl ?_
  refine lda_n_3_0 (pc := 0) d_On_turn_0 ?_
  refine ldi_n_3_1 (pc := 1) d_On_turn_1 ?_
  refine r_callV (pc := 2) (As := [.int x]) (k := 8) (N := 11) (T := T_On) k_On_82 im_On_isMourner se_On_isMourner rfl (by decide) rfl (by decide) d_On_turn_2 (by assumption) (c_On_isMourner hO0) rfl (Nat.le_of_ble_eq_true rfl) (by omega) (by omega) (by omega) (fun v S' I' J' hq => ?_)
  obtain ⟨rfl, rfl, rfl, rfl⟩ := hq
  rw [hc]
  refine r_if_ne (pc := 5) (tgt := 10) d_On_turn_5 (by decide) (fun c1 => ?_) (fun c1 => ?_)
  · rw [if_neg c1] at hR
    obtain ⟨p, hp, rfl⟩ := qisM_y (by omega) c1
    rw [qcl (n := p) (by omega)] at hR
    refine lda_n_3_0 (pc := 10) d_On_turn_10 ?_
    refine g_On_27 (pc := 11) rfl d_On_turn_11 (by assumption) (by assumption) ?_
    refine lda_n_3_0 (pc := 14) d_On_turn_14 ?_
    refine g_On_23 (pc := 15) rfl d_On_turn_15 (by assumption) (by assumption) ?_
    refine r_callVN (pc := 18) (As := [.ref (qb E + 6)]) (k := 3) (N := 9) (T := T_Mg) k_On_179 im_Mg_becomes se_Mg_becomes rfl (by decide) rfl (by decide) d_On_turn_18 aT (c_Mg_becomes hA hN hok (by unfold qApM; omega)) rfl (Nat.le_of_ble_eq_true rfl) (by omega) (by omega) (by omega) (fun v S2 I2 J' hq => ?_)
    obtain ⟨rfl, hS2, rfl, rfl⟩ := hq
    have hO3 : isOn S2 w0 w0 w2 bl := by rw [hS2]; exact hO2
    obtain ⟨oT', oR0', oR1', oR2', oR3', oR5', oR6', oR8', oR9', oR10', hI1', hN', hA', -⟩ := hO3
    have hA0 := hA'
    obtain ⟨mT, mA1, mA2, mR0, mR2, mR5, mR6, mR7, mR8, nS, nP, nB, nI0, mRp, mMp⟩ := hA'
    have hin : vp_in (nI p) 6 := vp_in_nI (by omega) (by omega)
    have hRc : qR S2 (33 + 1) (nI p).toNatClampNeg = some (qm 33 p) := by rw [qcl (by omega)]; exact mRp p (by omega)
    have hMT : qT S2 (qm 33 p) 2 := (mMp p (by omega)).1
    have key : ∀ (m k : Nat) (K : qI), m + k = 61 → qMgOK K 33 (9999 + k) → qIsOK K w0 → qFr (aP w0) I K → n33 I K → qEq (w0 + 4) (cah I w0 k) K → aTurn (fun k => cah I w0 k (qm 33 p) 6) m k = R → qW E y_On_turn b_On_turn (some .int) 5 0 0 (cAX S I J w0 R) 0 0 23 [some (.ref (qb E + 0)), some (.int (nI p)), some (.int (nI k))] [] S2 K J := by
      intro m
      induction m with
      | zero =>
        intro k K hk ok is fr n3 he hj
        refine ldi_n_3_2 (pc := 23) d_On_turn_23 ?_
        refine r_bipush (pc := 24) (v := 60) d_On_turn_24 rfl ?_
        refine r_icmp_gt (pc := 26) (tgt := 62) d_On_turn_26 (by decide) (fun c2 => ?_) (fun c2 => ?_)
        · refine r_bipush (pc := 62) (v := (-5)) d_On_turn_62 rfl ?_
          exact r_iret d_On_turn_64 rfl (by omega) (by omega) (⟨by rw [← hj]; rfl, Or.inr hS2, fr, ok.ah, rfl, n3⟩)
        · exact absurd (show nI 60 < nI k from nI_lt (by omega) (by omega)) c2
      | succ m ih =>
        intro k K hk ok is fr n3 he hj
        rw [aTurn] at hj
        have e6 : K (qm 33 p) 6 = cah I w0 k (qm 33 p) 6 := by rw [he (qm 33 p) (by unfold qW1 at hw; unfold qm; omega)]
        refine ldi_n_3_2 (pc := 23) d_On_turn_23 ?_
        refine r_bipush (pc := 24) (v := 60) d_On_turn_24 rfl ?_
        refine r_icmp_gt (pc := 26) (tgt := 62) d_On_turn_26 (by decide) (fun c2 => ?_) (fun c2 => ?_)
        · exact absurd c2 (Int32.not_lt.mpr (show nI k ≤ nI 60 from nI_le (by omega) (by omega)))
        · refine lda_n_3_0 (pc := 29) d_On_turn_29 ?_
          refine g_On_27 (pc := 30) rfl d_On_turn_30 (by assumption) (by assumption) ?_
          refine g_On_72 (pc := 33) rfl d_On_turn_33 (by assumption) (by assumption) ?_
          refine ldi_n_3_1 (pc := 36) d_On_turn_36 ?_
          refine r_aald14 (pc := 37) d_On_turn_37 (by assumption) (by first | assumption | exact vp_in_nI (by omega) (by omega) | (unfold vp_in; decide)) (by assumption) ?_
          refine g_On_101 (pc := 38) rfl d_On_turn_38 (by assumption) ?_
          refine r_if_eq (pc := 41) (tgt := 46) d_On_turn_41 (by decide) (fun c3 => ?_) (fun c3 => ?_)
          · rw [e6] at c3
            rw [if_pos c3] at hj
            refine lda_n_3_0 (pc := 46) d_On_turn_46 ?_
            refine g_On_27 (pc := 47) rfl d_On_turn_47 (by assumption) (by assumption) ?_
            refine r_iconst (pc := 50) (v := 1) d_On_turn_50 rfl ?_
            refine r_ldc (pc := 51) ct_On_183 d_On_turn_51 ?_
            refine r_callVN (pc := 53) (As := [.int (nI 1), .int 2147483647]) (k := 3) (N := 9) (T := T_Mg) k_On_175 im_Mg_go se_Mg_go rfl (by decide) rfl (by decide) d_On_turn_53 mT (c_Mg_go (n := 1) (D := 9999 + k) hA0 ok is hap (by omega)) rfl (Nat.le_of_ble_eq_true rfl) (by omega) (by omega) (by omega) (fun v S' I3 J' hq => ?_)
            obtain ⟨rfl, rfl, hI3, rfl⟩ := hq
            obtain ⟨ok3, is3, fr3⟩ := aGo hw ok is fr hI3
            have hcn := (ok2.goN (i := w0) (most := 2147483647) k).1
            obtain ⟨cc, cc6, hcc⟩ := hcn
            refine inc_3_2 (pc := 56) (w := 1) d_On_turn_56 rfl rfl ?_
            refine r_goto (pc := 59) (tgt := 23) d_On_turn_59 (by decide) ?_
            rw [q1]
            exact ih (k + 1) I3 (by omega) ok3 is3 fr3 ((n3.tr (fun p _ => qgoN_0 1)).tr (n33.eq hw hI3)) ((qgo1_eq hcc cc6 hap he).tr hI3) hj
          · rw [e6] at c3
            rw [if_neg c3] at hj
            refine ldi_n_3_2 (pc := 44) d_On_turn_44 ?_
            exact r_iret d_On_turn_45 rfl (by omega) (by omega) (⟨by rw [← hj], Or.inr hS2, fr, ok.ah, rfl, n3⟩)
    refine r_iconst (pc := 21) (v := 0) d_On_turn_21 rfl ?_
    refine sti_n_3_2 (pc := 22) d_On_turn_22 rfl ?_
    exact key 61 0 _ rfl ok2 is2 fr2 n2 qEq.rf hR
  · rw [if_pos c1] at hR
    refine r_iconst (pc := 8) (v := (-1)) d_On_turn_8 rfl ?_
    exact r_iret d_On_turn_9 rfl (by omega) (by omega) (⟨by rw [← hR], Or.inl rfl, qFr.rf, h33, rfl, n33.rf⟩)
theorem c_On_emptyX (hO : isOn S w0 w1 w2 bl) (hw : qW1 w0) (hok : qMgOK I 6 9999) (hI : qIsOK I w0) (h33 : cAh0 I) : qMet E y_On_empty b_On_empty 2 (some .int) 5 0 0 [.ref (qb E + 0)] S I J (cAX S I J w0 (ca_empty I w0)) := by
  have hO0 := hO
  obtain ⟨oT, oR0, oR1, oR2, oR3, oR5, oR6, oR8, oR9, oR10, hI1, hN, hA, hM3, hRe, hBl, hRo, hAc, tA, tR, tT⟩ := hO
  have aT := hA.1
  have nT := hN.1
  obtain ⟨ok2, is2, fr2⟩ := aBec hw hok hI h33
  have n2 := n33.bec hok
  have hO2 := hO0.set33 hN.is
  generalize hR : ca_empty I w0 = R
  unfold ca_empty at hR
  have hap : qApart 33 w0 := by unfold qApart; unfold qW1 at hw; omega
  refine qMet.of (L := [some (.ref (qb E + 0)), none]) (by decide +kernel) (Nat.le_of_ble_eq_true rfl) rfl ?_
  refine lda_n_2_0 (pc := 0) d_On_empty_0 ?_
  refine g_On_27 (pc := 1) rfl d_On_empty_1 (by assumption) (by assumption) ?_
  refine lda_n_2_0 (pc := 4) d_On_empty_4 ?_
  refine g_On_23 (pc := 5) rfl d_On_empty_5 (by assumption) (by assumption) ?_
  refine r_callVN (pc := 8) (As := [.ref (qb E + 6)]) (k := 3) (N := 9) (T := T_Mg) k_On_179 im_Mg_becomes se_Mg_becomes rfl (by decide) rfl (by decide) d_On_empty_8 aT (c_Mg_becomes hA hN hok (by unfold qApM; omega)) rfl (Nat.le_of_ble_eq_true rfl) (by omega) (by omega) (by omega) (fun v S2 I2 J' hq => ?_)
  obtain ⟨rfl, hS2, rfl, rfl⟩ := hq
  have hO3 : isOn S2 w0 w0 w2 bl := by rw [hS2]; exact hO2
  obtain ⟨oT', oR0', oR1', oR2', oR3', oR5', oR6', oR8', oR9', oR10', hI1', hN', hA', -⟩ := hO3
  have mT := hA'.1
  have key : ∀ (m k : Nat) (K : qI), m + k = 61 → qMgOK K 33 (9999 + k) → qIsOK K w0 → qFr (aP w0) I K → n33 I K → qEq (w0 + 4) (cah I w0 k) K → aTurn (fun k => if qdones (cah I w0 k) 33 = cah I w0 k 33 1 then 1 else 0) m k = R → qW E y_On_empty b_On_empty (some .int) 5 0 0 (cAX S I J w0 R) 0 0 13 [some (.ref (qb E + 0)), some (.int (nI k))] [] S2 K J := by
    intro m
    induction m with
    | zero =>
      intro k K hk ok is fr n3 he hj
      refine ldi_n_2_1 (pc := 13) d_On_empty_13 ?_
      refine r_bipush (pc := 14) (v := 60) d_On_empty_14 rfl ?_
      refine r_icmp_gt (pc := 16) (tgt := 54) d_On_empty_16 (by decide) (fun c2 => ?_) (fun c2 => ?_)
      · refine r_bipush (pc := 54) (v := (-5)) d_On_empty_54 rfl ?_
        exact r_iret d_On_empty_56 rfl (by omega) (by omega) (⟨by rw [← hj]; rfl, Or.inr hS2, fr, ok.ah, rfl, n3⟩)
      · exact absurd (show nI 60 < nI k from nI_lt (by omega) (by omega)) c2
    | succ m ih =>
      intro k K hk ok is fr n3 he hj
      rw [aTurn] at hj
      obtain ⟨cc, cc6, hcc⟩ := (ok2.goN (i := w0) (most := 2147483647) k).1
      obtain ⟨-, ed⟩ := qhurts_eq hw hcc cc6 he
      change qdones K 33 = qdones (cah I w0 k) 33 at ed
      have e1 : K 33 1 = cah I w0 k 33 1 := by rw [he 33 (by unfold qW1 at hw; omega)]
      refine ldi_n_2_1 (pc := 13) d_On_empty_13 ?_
      refine r_bipush (pc := 14) (v := 60) d_On_empty_14 rfl ?_
      refine r_icmp_gt (pc := 16) (tgt := 54) d_On_empty_16 (by decide) (fun c2 => ?_) (fun c2 => ?_)
      · exact absurd c2 (Int32.not_lt.mpr (show nI k ≤ nI 60 from nI_le (by omega) (by omega)))
      · refine lda_n_2_0 (pc := 19) d_On_empty_19 ?_
        refine g_On_27 (pc := 20) rfl d_On_empty_20 (by assumption) (by assumption) ?_
        refine r_callVN (pc := 23) (As := []) (k := 3) (N := 9) (T := T_Mg) k_On_161 im_Mg_howManyDone se_Mg_howManyDone rfl (by decide) rfl (by decide) d_On_empty_23 mT (c_Mg_howManyDone hA' ok) rfl (Nat.le_of_ble_eq_true rfl) (by omega) (by omega) (by omega) (fun v S' I' J' hq => ?_)
        obtain ⟨rfl, rfl, rfl, rfl⟩ := hq
        refine lda_n_2_0 (pc := 26) d_On_empty_26 ?_
        refine g_On_27 (pc := 27) rfl d_On_empty_27 (by assumption) (by assumption) ?_
        refine g_On_68 (pc := 30) rfl d_On_empty_30 (by assumption) ?_
        rw [ed, e1]
        refine r_icmp_ne (pc := 33) (tgt := 38) d_On_empty_33 (by decide) (fun c3 => ?_) (fun c3 => ?_)
        · rw [if_neg c3, if_pos rfl] at hj
          refine lda_n_2_0 (pc := 38) d_On_empty_38 ?_
          refine g_On_27 (pc := 39) rfl d_On_empty_39 (by assumption) (by assumption) ?_
          refine r_iconst (pc := 42) (v := 1) d_On_empty_42 rfl ?_
          refine r_ldc (pc := 43) ct_On_183 d_On_empty_43 ?_
          refine r_callVN (pc := 45) (As := [.int (nI 1), .int 2147483647]) (k := 3) (N := 9) (T := T_Mg) k_On_175 im_Mg_go se_Mg_go rfl (by decide) rfl (by decide) d_On_empty_45 mT (c_Mg_go (n := 1) (D := 9999 + k) hA' ok is hap (by omega)) rfl (Nat.le_of_ble_eq_true rfl) (by omega) (by omega) (by omega) (fun v S' I3 J' hq => ?_)
          obtain ⟨rfl, rfl, hI3, rfl⟩ := hq
          obtain ⟨ok3, is3, fr3⟩ := aGo hw ok is fr hI3
          refine inc_2_1 (pc := 48) (w := 1) d_On_empty_48 rfl rfl ?_
          refine r_goto (pc := 51) (tgt := 13) d_On_empty_51 (by decide) ?_
          rw [q1]
          exact ih (k + 1) I3 (by omega) ok3 is3 fr3 ((n3.tr (fun p _ => qgoN_0 1)).tr (n33.eq hw hI3)) ((qgo1_eq hcc cc6 hap he).tr hI3) hj
        · rw [if_pos c3, if_neg (by decide)] at hj
          refine ldi_n_2_1 (pc := 36) d_On_empty_36 ?_
          exact r_iret d_On_empty_37 rfl (by omega) (by omega) (⟨by rw [← hj], Or.inr hS2, fr, ok.ah, rfl, n3⟩)
  refine r_iconst (pc := 11) (v := 0) d_On_empty_11 rfl ?_
  refine sti_n_2_1 (pc := 12) d_On_empty_12 rfl ?_
  exact key 61 0 _ rfl ok2 is2 fr2 n2 qEq.rf hR
theorem c_On_endsX {x : Int32} (hO : isOn S w0 w1 w2 bl) (hw : qW1 w0) (hok : qMgOK I 6 9999) (hI : qIsOK I w0) (h33 : cAh0 I) : qMet E y_On_ends b_On_ends 2 (some .int) 6 0 0 [.ref (qb E + 0), .int x] S I J (cAX S I J w0 (ca_ends I w0 x)) := by
  have hO0 := hO
  obtain ⟨oT, oR0, oR1, oR2, oR3, oR5, oR6, oR8, oR9, oR10, hI1, hN, hA, hM3, hRe, hBl, hRo, hAc, tA, tR, tT⟩ := hO
  have aT := hA.1
  have nT := hN.1
  obtain ⟨ok2, is2, fr2⟩ := aBec hw hok hI h33
  have n2 := n33.bec hok
  have hO2 := hO0.set33 hN.is
  generalize hR : ca_ends I w0 x = R
  unfold ca_ends at hR
  refine qMet.of (L := [some (.ref (qb E + 0)), some (.int x)]) (by decide +kernel) (Nat.le_of_ble_eq_true rfl) rfl ?_
  refine ldi_n_2_1 (pc := 0) d_On_ends_0 ?_
  refine r_iconst (pc := 1) (v := 0) d_On_ends_1 rfl ?_
  refine r_iconst (pc := 2) (v := 1) d_On_ends_2 rfl ?_
  refine r_callS (pc := 3) (As := [.int x, .int 0, .int 1]) k_On_64 sw_On_within rfl (by decide) d_On_ends_3 (c_On_within _ _ _) rfl (Nat.le_of_ble_eq_true rfl) (by omega) (by omega) (by omega) (fun v S' I' J' hq => ?_)
  obtain ⟨rfl, rfl, rfl, rfl⟩ := hq
  refine r_if_ne (pc := 6) (tgt := 11) d_On_ends_6 (by decide) (fun c1 => ?_) (fun c1 => ?_)
  · rw [if_neg c1] at hR
    refine lda_n_2_0 (pc := 11) d_On_ends_11 ?_
    refine g_On_27 (pc := 12) rfl d_On_ends_12 (by assumption) (by assumption) ?_
    refine lda_n_2_0 (pc := 15) d_On_ends_15 ?_
    refine g_On_23 (pc := 16) rfl d_On_ends_16 (by assumption) (by assumption) ?_
    refine r_callVN (pc := 19) (As := [.ref (qb E + 6)]) (k := 3) (N := 9) (T := T_Mg) k_On_179 im_Mg_becomes se_Mg_becomes rfl (by decide) rfl (by decide) d_On_ends_19 aT (c_Mg_becomes hA hN hok (by unfold qApM; omega)) rfl (Nat.le_of_ble_eq_true rfl) (by omega) (by omega) (by omega) (fun v S2 I2 J' hq => ?_)
    obtain ⟨rfl, hS2, rfl, rfl⟩ := hq
    have hO3 : isOn S2 w0 w0 w2 bl := by rw [hS2]; exact hO2
    obtain ⟨oT', oR0', oR1', oR2', oR3', oR5', oR6', oR8', oR9', oR10', hI1', hN', hA', -⟩ := hO3
    have mT := hA'.1
    refine lda_n_2_0 (pc := 22) d_On_ends_22 ?_
    refine g_On_27 (pc := 23) rfl d_On_ends_23 (by assumption) (by assumption) ?_
    refine r_callVN (pc := 26) (As := []) (k := 3) (N := 9) (T := T_Mg) k_On_235 im_Mg_goByPlan se_Mg_goByPlan rfl (by decide) rfl (by decide) d_On_ends_26 mT (c_Mg_goByPlan hA' ok2 is2 (by unfold qApart; unfold qW1 at hw; omega) (by omega)) rfl (Nat.le_of_ble_eq_true rfl) (by omega) (by omega) (by omega) (fun v S' I3 J' hq => ?_)
    obtain ⟨rfl, rfl, hI3, rfl⟩ := hq
    obtain ⟨ok3, fr3⟩ := aPlan hw ok2 fr2 hI3
    have n3 : n33 I I3 := (n2.tr (fun p _ => qplanN_0 _)).tr (n33.eq hw hI3)
    obtain ⟨cc, cc6, hcc⟩ := (ok2.planN (i := w0) (qmbec I 33 6 (33 + 7) 3).toNatClampNeg).1
    obtain ⟨eh, ed⟩ := qhurts_eq hw hcc cc6 hI3
    change qhurts I3 33 = qhurts (cpl I w0) 33 at eh
    change qdones I3 33 = qdones (cpl I w0) 33 at ed
    refine ldi_n_2_1 (pc := 29) d_On_ends_29 ?_
    refine r_if_ne (pc := 30) (tgt := 43) d_On_ends_30 (by decide) (fun c2 => ?_) (fun c2 => ?_)
    · rw [if_neg c2] at hR
      refine lda_n_2_0 (pc := 43) d_On_ends_43 ?_
      refine g_On_27 (pc := 44) rfl d_On_ends_44 (by assumption) (by assumption) ?_
      refine r_callVN (pc := 47) (As := []) (k := 3) (N := 9) (T := T_Mg) k_On_161 im_Mg_howManyDone se_Mg_howManyDone rfl (by decide) rfl (by decide) d_On_ends_47 mT (c_Mg_howManyDone hA' ok3) rfl (Nat.le_of_ble_eq_true rfl) (by omega) (by omega) (by omega) (fun v S' I' J' hq => ?_)
      obtain ⟨rfl, rfl, rfl, rfl⟩ := hq
      exact r_iret d_On_ends_50 rfl (by omega) (by omega) (⟨by rw [ed, ← hR], Or.inr hS2, fr3, ok3.ah, rfl, n3⟩)
    · rw [if_pos c2] at hR
      refine lda_n_2_0 (pc := 33) d_On_ends_33 ?_
      refine g_On_27 (pc := 34) rfl d_On_ends_34 (by assumption) (by assumption) ?_
      refine r_callVN (pc := 37) (As := []) (k := 3) (N := 9) (T := T_Mg) k_On_157 im_Mg_hurtOfAll se_Mg_hurtOfAll rfl (by decide) rfl (by decide) d_On_ends_37 mT (c_Mg_hurtOfAll hA' ok3) rfl (Nat.le_of_ble_eq_true rfl) (by omega) (by omega) (by omega) (fun v S' I' J' hq => ?_)
      obtain ⟨rfl, rfl, rfl, rfl⟩ := hq
      refine r_goto (pc := 40) (tgt := 50) d_On_ends_40 (by decide) ?_
      exact r_iret d_On_ends_50 rfl (by omega) (by omega) (⟨by rw [eh, ← hR], Or.inr hS2, fr3, ok3.ah, rfl, n3⟩)
  · rw [if_pos c1] at hR
    refine r_iconst (pc := 9) (v := (-1)) d_On_ends_9 rfl ?_
    exact r_iret d_On_ends_10 rfl (by omega) (by omega) (⟨by rw [← hR], Or.inl rfl, qFr.rf, h33, rfl, n33.rf⟩)
end U0
/-! can, told exactly: the object's side -/
def ccf (w : Int32) : Nat := if w = 0 then 3 else if w = 1 then 4 else 2
def cmo (w : Int32) : Nat := if w = 0 then 100 else if w = 1 then 61 else 10
def aCanN (f : Nat → Int32) : Nat → Int32 → Int32 → Int32 × Int32
  | 0, m, l => (m, l)
  | k + 1, m, l => if f k = 0 then aCanN f k m l else aCanN f k (m + 1) (nI k)
def aCan (c : Nat) (x w z : Int32) (f : Nat → Nat → Int32) : Int32 := if qwithin x 0 (nI c - 1) = 0 then -1 else if qwithin w 0 2 = 0 then -1 else if qwithin z 0 1 = 0 then -1 else if z = 0 then (aCanN (f x.toNatClampNeg) (cmo w) 0 (-5)).1 else (aCanN (f x.toNatClampNeg) (cmo w) 0 (-5)).2
def cSn (I : qI) (w0 : Nat) (w : Int32) (p n : Nat) : Int32 := qseenN (qup (qmbec I 33 6) (qm 33 p) (ccf w) (nI n)) 33 w0 (qm 33 p) (qmbec I 33 6 (33 + 3) 3).toNatClampNeg (qmbec I 33 6 (33 + 3) 3).toNatClampNeg
def ca_can (I : qI) (w0 c : Nat) (x w z : Int32) : Int32 := aCan c x w z (fun p n => cSn I w0 w p n)
theorem qup_qup {α : Type} {M : Nat → Nat → α} {a j : Nat} {x y : α} : qup (qup M a j x) a j y = qup M a j y := by
  funext b i
  by_cases h : b = a ∧ i = j
  · obtain ⟨rfl, rfl⟩ := h; rw [qup_at, qup_at]
  · rw [qup_ne h, qup_ne h, qup_ne h]
theorem qseenN_eq {A B : qI} {o i m z : Nat} (hap : qApart o i) (hm : m + 1 < i ∨ i + 4 < m) (h : qEq (i + 4) A B) : ∀ j, qseenN B o i m z j = qseenN A o i m z j := by
  intro j
  unfold qApart at hap
  induction j with
  | zero => rfl
  | succ j ih =>
    rw [qseenN, qseenN, ih, h (o + 4) (by omega), h (o + 5) (by omega), h (o + 6) (by omega), h m (by omega), qpainAt_eq h (by omega) hm]
theorem qseenN_b {A : qI} {o i m z : Nat} : ∀ j, qbool (qseenN A o i m z j) := by
  intro j
  induction j with
  | zero => exact Or.inr rfl
  | succ j ih =>
    rw [qseenN]
    split
    · exact Or.inl rfl
    · exact ih
section U5
variable {E : qE} {S : qSh} {I : qI} {J : qJ} {w0 w1 w2 bl : Nat}
theorem c_On_canX {x w z : Int32} {c : Nat} (hO : isOn S w0 w1 w2 bl) (hw : qW1 w0) (hok : qMgOK I 6 9999) (hI : qIsOK I w0) (h33 : cAh0 I) (hc : I 6 1 = nI c) (hc6 : c ≤ 6) : qMet E y_On_can b_On_can 9 (some .int) 5 0 0 [.ref (qb E + 0), .int x, .int w, .int z] S I J (cAX S I J w0 (ca_can I w0 c x w z)) := by
  have hO0 := hO
  obtain ⟨oT, oR0, oR1, oR2, oR3, oR5, oR6, oR8, oR9, oR10, hI1, hN, hA, hM3, hRe, hBl, hRo, hAc, tA, tR, tT⟩ := hO
  have aT := hA.1
  have nT := hN.1
  obtain ⟨ok2, is2, fr2⟩ := aBec hw hok hI h33
  have nn2 := n33.bec hok
  have hO2 := hO0.set33 hN.is
  have hap : qApart 33 w0 := by unfold qApart; unfold qW1 at hw; omega
  generalize hR : ca_can I w0 c x w z = R
  unfold ca_can aCan at hR
  refine qMet.of (L := [some (.ref (qb E + 0)), some (.int x), some (.int w), some (.int z), none, none, none, none, none]) (by decide +kernel) (Nat.le_of_ble_eq_true rfl) rfl ?_
  refine lda_n_9_0 (pc := 0) d_On_can_0 ?_
  refine ldi_n_9_1 (pc := 1) d_On_can_1 ?_
  refine r_callV (pc := 2) (As := [.int x]) (k := 8) (N := 11) (T := T_On) k_On_82 im_On_isMourner se_On_isMourner rfl (by decide) rfl (by decide) d_On_can_2 (by assumption) (c_On_isMourner hO0) rfl (Nat.le_of_ble_eq_true rfl) (by omega) (by omega) (by omega) (fun v S' I' J' hq => ?_)
  obtain ⟨rfl, rfl, rfl, rfl⟩ := hq
  rw [hc]
  refine r_if_eq (pc := 5) (tgt := 26) d_On_can_5 (by decide) (fun c1 => ?_) (fun c1 => ?_)
  · rw [if_pos c1] at hR
    refine r_iconst (pc := 26) (v := (-1)) d_On_can_26 rfl ?_
    exact r_iret d_On_can_27 rfl (by omega) (by omega) (⟨by rw [← hR], Or.inl rfl, qFr.rf, h33, rfl, n33.rf⟩)
  · rw [if_neg c1] at hR
    refine ldi_n_9_2 (pc := 8) d_On_can_8 ?_
    refine r_iconst (pc := 9) (v := 0) d_On_can_9 rfl ?_
    refine r_iconst (pc := 10) (v := 2) d_On_can_10 rfl ?_
    refine r_callS (pc := 11) (As := [.int w, .int 0, .int 2]) k_On_64 sw_On_within rfl (by decide) d_On_can_11 (c_On_within _ _ _) rfl (Nat.le_of_ble_eq_true rfl) (by omega) (by omega) (by omega) (fun v S' I' J' hq => ?_)
    obtain ⟨rfl, rfl, rfl, rfl⟩ := hq
    refine r_if_eq (pc := 14) (tgt := 26) d_On_can_14 (by decide) (fun c2 => ?_) (fun c2 => ?_)
    · rw [if_pos c2] at hR
      refine r_iconst (pc := 26) (v := (-1)) d_On_can_26 rfl ?_
      exact r_iret d_On_can_27 rfl (by omega) (by omega) (⟨by rw [← hR], Or.inl rfl, qFr.rf, h33, rfl, n33.rf⟩)
    · rw [if_neg c2] at hR
      refine ldi_n_9_3 (pc := 17) d_On_can_17 ?_
      refine r_iconst (pc := 18) (v := 0) d_On_can_18 rfl ?_
      refine r_iconst (pc := 19) (v := 1) d_On_can_19 rfl ?_
      refine r_callS (pc := 20) (As := [.int z, .int 0, .int 1]) k_On_64 sw_On_within rfl (by decide) d_On_can_20 (c_On_within _ _ _) rfl (Nat.le_of_ble_eq_true rfl) (by omega) (by omega) (by omega) (fun v S' I' J' hq => ?_)
      obtain ⟨rfl, rfl, rfl, rfl⟩ := hq
      refine r_if_ne (pc := 23) (tgt := 28) d_On_can_23 (by decide) (fun c3 => ?_) (fun c3 => ?_)
      · rw [if_neg c3] at hR
        obtain ⟨p, hp, rfl⟩ := qisM_y (by omega) c1
        rw [qcl (n := p) (by omega)] at hR
        refine lda_n_9_0 (pc := 28) d_On_can_28 ?_
        refine g_On_27 (pc := 29) rfl d_On_can_29 (by assumption) (by assumption) ?_
        refine lda_n_9_0 (pc := 32) d_On_can_32 ?_
        refine g_On_23 (pc := 33) rfl d_On_can_33 (by assumption) (by assumption) ?_
        refine r_callVN (pc := 36) (As := [.ref (qb E + 6)]) (k := 3) (N := 9) (T := T_Mg) k_On_179 im_Mg_becomes se_Mg_becomes rfl (by decide) rfl (by decide) d_On_can_36 aT (c_Mg_becomes hA hN hok (by unfold qApM; omega)) rfl (Nat.le_of_ble_eq_true rfl) (by omega) (by omega) (by omega) (fun v S2 I2 J' hq => ?_)
        obtain ⟨rfl, hS2, rfl, rfl⟩ := hq
        have hO3 : isOn S2 w0 w0 w2 bl := by rw [hS2]; exact hO2
        obtain ⟨oT', oR0', oR1', oR2', oR3', oR5', oR6', oR8', oR9', oR10', hI1', hN', hA', -⟩ := hO3
        have hA0 := hA'
        obtain ⟨mT, mA1, mA2, mR0, mR2, mR5, mR6, mR7, mR8, nS, nP, nB, nI0, mRp, mMp⟩ := hA'
        have hin : vp_in (nI p) 6 := vp_in_nI (by omega) (by omega)
        have hRc : qR S2 (33 + 1) (nI p).toNatClampNeg = some (qm 33 p) := by rw [qcl (by omega)]; exact mRp p (by omega)
        have hMo : isMo S2 (qm 33 p) := mMp p (by omega)
        have hMT : qT S2 (qm 33 p) 2 := hMo.1
        have lo := qm_lo (o := 33) (p := p)
        have hi := qm_hi (o := 33) (p := p) (by omega)
        have hmw : qm 33 p + 1 < w0 ∨ w0 + 4 < qm 33 p := by unfold qW1 at hw; omega
        have keep : ∀ (K : qI) (j : Nat) (v : Int32), j ≠ 6 → j ≠ 0 → qMgOK K 33 9999 → qIsOK K w0 → qFr (aP w0) I K → n33 I K → qMgOK (qup K (qm 33 p) j v) 33 9999 ∧ qIsOK (qup K (qm 33 p) j v) w0 ∧ qFr (aP w0) I (qup K (qm 33 p) j v) ∧ n33 I (qup K (qm 33 p) j v) := by
          intro K j v hj hj0 ok is fr n3
          unfold qW1 at hw
          refine ⟨ok.rows (fun a h1 h2 => qup_row (by omega)) (fun p2 hp2 => ?_), is.of (qup_row (by omega)) (qup_row (by omega)), fr.up (by unfold aP; omega), fun p2 hp2 => by rw [qup_j (Ne.symm hj0)]; exact n3 p2 hp2⟩
          have := ok.2.2.2.2.2.2.1 p2 hp2
          by_cases e : qm 33 p2 = qm 33 p
          · rw [e, qup_j (Ne.symm hj), ← e]; exact this
          · rw [qup_o e]; exact this
        have fin : ∀ (m5 m6 m7 m8 : Int32) (K : qI), qMgOK K 33 9999 → qFr (aP w0) I K → n33 I K → (if z = 0 then m6 else m7) = R → qW E y_On_can b_On_can (some .int) 5 0 0 (cAX S I J w0 R) 0 0 150 [some (.ref (qb E + 0)), some (.int (nI p)), some (.int w), some (.int z), some (.ref (qb E + qm 33 p)), some (.int m5), some (.int m6), some (.int m7), some (.int m8)] [] S2 K J := by
          intro m5 m6 m7 m8 K ok fr n3 hj
          refine ldi_n_9_3 (pc := 150) d_On_can_150 ?_
          refine r_if_ne (pc := 151) (tgt := 159) d_On_can_151 (by decide) (fun c5 => ?_) (fun c5 => ?_)
          · rw [if_neg c5] at hj
            refine ldi_9_7 (pc := 159) d_On_can_159 ?_
            exact r_iret d_On_can_161 rfl (by omega) (by omega) (⟨by rw [← hj], Or.inr hS2, fr, ok.ah, rfl, n3⟩)
          · rw [if_pos c5] at hj
            refine ldi_9_6 (pc := 154) d_On_can_154 ?_
            refine r_goto (pc := 156) (tgt := 161) d_On_can_156 (by decide) ?_
            exact r_iret d_On_can_161 rfl (by omega) (by omega) (⟨by rw [← hj], Or.inr hS2, fr, ok.ah, rfl, n3⟩)
        have key : ∀ (k : Nat), k ≤ 100 → ∀ (K : qI) (m5 m6 m7 : Int32), qMgOK K 33 9999 → qIsOK K w0 → qFr (aP w0) I K → n33 I K → (∀ v, qEq (w0 + 4) (qup (qmbec I 33 6) (qm 33 p) (ccf w) v) (qup K (qm 33 p) (ccf w) v)) → (if z = 0 then (aCanN (fun n => cSn I w0 w p n) k m6 m7).1 else (aCanN (fun n => cSn I w0 w p n) k m6 m7).2) = R → qW E y_On_can b_On_can (some .int) 5 0 0 (cAX S I J w0 R) 0 0 84 [some (.ref (qb E + 0)), some (.int (nI p)), some (.int w), some (.int z), some (.ref (qb E + qm 33 p)), some (.int m5), some (.int m6), some (.int m7), some (.int (nI k - 1))] [] S2 K J := by
          intro k
          induction k with
          | zero =>
            intro _ K m5 m6 m7 ok is fr n3 he hj
            refine ldi_9_8 (pc := 84) d_On_can_84 ?_
            refine r_if_lt (pc := 86) (tgt := 150) d_On_can_86 (by decide) (fun c4 => ?_) (fun c4 => ?_)
            · exact fin _ _ _ _ K ok fr n3 hj
            · exact absurd (by decide) c4
          | succ k ih =>
            intro hk K m5 m6 m7 ok is fr n3 he hj
            rw [nI_pred]
            rw [aCanN] at hj
            have aft : ∀ (M : qI), M = qup K (qm 33 p) (ccf w) (nI k) → qMgOK M 33 9999 → qIsOK M w0 → qFr (aP w0) I M → n33 I M → qW E y_On_can b_On_can (some .int) 5 0 0 (cAX S I J w0 R) 0 0 125 [some (.ref (qb E + 0)), some (.int (nI p)), some (.int w), some (.int z), some (.ref (qb E + qm 33 p)), some (.int m5), some (.int m6), some (.int m7), some (.int (nI k))] [] S2 M J := by
              intro M hM ok is fr n3
              have eM : qEq (w0 + 4) (qup (qmbec I 33 6) (qm 33 p) (ccf w) (nI k)) M := by rw [hM]; exact he _
              have ez : M (33 + 3) 3 = qmbec I 33 6 (33 + 3) 3 := by rw [eM (33 + 3) (by unfold qApart at hap; omega), qup_o (by unfold qm; omega)]
              refine lda_n_9_0 (pc := 125) d_On_can_125 ?_
              refine g_On_27 (pc := 126) rfl d_On_can_126 (by assumption) (by assumption) ?_
              refine lda_9_4 (pc := 129) d_On_can_129 ?_
              refine r_callVN (pc := 131) (As := [.ref (qb E + qm 33 p)]) (k := 3) (N := 9) (T := T_Mg) k_On_212 im_Mg_isAsSeen se_Mg_isAsSeen rfl (by decide) rfl (by decide) d_On_can_131 mT (c_Mg_isAsSeen hA0 hMo hmw ok is hap (by omega)) rfl (Nat.le_of_ble_eq_true rfl) (by omega) (by omega) (by omega) (fun v S' I3 J' hq => ?_)
              obtain ⟨rfl, rfl, hI3, rfl⟩ := hq
              rw [ez]
              have es : ∀ y, qseenN M 33 w0 (qm 33 p) (qmbec I 33 6 (33 + 3) 3).toNatClampNeg y = qseenN (qup (qmbec I 33 6) (qm 33 p) (ccf w) (nI k)) 33 w0 (qm 33 p) (qmbec I 33 6 (33 + 3) 3).toNatClampNeg y := qseenN_eq hap hmw eM
              have e0 : qseenN M 33 w0 (qm 33 p) (qmbec I 33 6 (33 + 3) 3).toNatClampNeg (qmbec I 33 6 (33 + 3) 3).toNatClampNeg = cSn I w0 w p k := es _
              rw [e0]
              have ok3 : qMgOK I3 33 9999 := ok.eq hap hI3
              have is3 : qIsOK I3 w0 := is.of (hI3 _ (by omega)) (hI3 _ (by omega))
              have fr3 : qFr (aP w0) I I3 := fun a ha => by rw [hI3 a (by unfold aP at ha; omega)]; exact fr a ha
              have nn3 : n33 I I3 := n3.tr (n33.eq hw hI3)
              have he3 : ∀ v, qEq (w0 + 4) (qup (qmbec I 33 6) (qm 33 p) (ccf w) v) (qup I3 (qm 33 p) (ccf w) v) := fun v => by
                have h1 := he v
                have h2 : qEq (w0 + 4) (qup M (qm 33 p) (ccf w) v) (qup I3 (qm 33 p) (ccf w) v) := hI3.up
                rw [hM, qup_qup] at h2
                exact h1.tr h2
              refine r_if_eq (pc := 134) (tgt := 144) d_On_can_134 (by decide) (fun c6 => ?_) (fun c6 => ?_)
              · rw [if_pos c6] at hj
                refine inc_9_8 (pc := 144) (w := (-1)) d_On_can_144 rfl rfl ?_
                refine r_goto (pc := 147) (tgt := 84) d_On_can_147 (by decide) ?_
                rw [nI_m1]
                exact ih (by omega) _ _ _ _ ok3 is3 fr3 nn3 he3 hj
              · rw [if_neg c6] at hj
                refine inc_9_6 (pc := 137) (w := 1) d_On_can_137 rfl rfl ?_
                refine ldi_9_8 (pc := 140) d_On_can_140 ?_
                refine sti_9_7 (pc := 142) d_On_can_142 rfl ?_
                refine inc_9_8 (pc := 144) (w := (-1)) d_On_can_144 rfl rfl ?_
                refine r_goto (pc := 147) (tgt := 84) d_On_can_147 (by decide) ?_
                rw [nI_m1]
                exact ih (by omega) _ _ _ _ ok3 is3 fr3 nn3 he3 hj
            refine ldi_9_8 (pc := 84) d_On_can_84 ?_
            refine r_if_lt (pc := 86) (tgt := 150) d_On_can_86 (by decide) (fun c4 => ?_) (fun c4 => ?_)
            · exact absurd c4 (nI_pos (by omega))
            · refine ldi_n_9_2 (pc := 89) d_On_can_89 ?_
              refine r_if_ne (pc := 90) (tgt := 103) d_On_can_90 (by decide) (fun c5 => ?_) (fun c5 => ?_)
              · refine ldi_n_9_2 (pc := 103) d_On_can_103 ?_
                refine r_iconst (pc := 104) (v := 1) d_On_can_104 rfl ?_
                refine r_icmp_ne (pc := 105) (tgt := 118) d_On_can_105 (by decide) (fun c6 => ?_) (fun c6 => ?_)
                · refine lda_9_4 (pc := 118) d_On_can_118 ?_
                  refine ldi_9_8 (pc := 120) d_On_can_120 ?_
                  refine p_On_89 (pc := 122) rfl d_On_can_122 (by assumption) ?_
                  obtain ⟨q1, q2, q3, q4⟩ := keep K 2 (nI k) (by decide) (by decide) ok is fr n3
                  exact aft _ (by unfold ccf; rw [if_neg c5, if_neg c6]) q1 q2 q3 q4
                · refine lda_9_4 (pc := 108) d_On_can_108 ?_
                  refine ldi_9_8 (pc := 110) d_On_can_110 ?_
                  refine p_On_95 (pc := 112) rfl d_On_can_112 (by assumption) ?_
                  refine r_goto (pc := 115) (tgt := 125) d_On_can_115 (by decide) ?_
                  obtain ⟨q1, q2, q3, q4⟩ := keep K 4 (nI k) (by decide) (by decide) ok is fr n3
                  exact aft _ (by unfold ccf; rw [if_neg c5, if_pos c6]) q1 q2 q3 q4
              · refine lda_9_4 (pc := 93) d_On_can_93 ?_
                refine ldi_9_8 (pc := 95) d_On_can_95 ?_
                refine p_On_92 (pc := 97) rfl d_On_can_97 (by assumption) ?_
                refine r_goto (pc := 100) (tgt := 125) d_On_can_100 (by decide) ?_
                obtain ⟨q1, q2, q3, q4⟩ := keep K 3 (nI k) (by decide) (by decide) ok is fr n3
                exact aft _ (by unfold ccf; rw [if_pos c5]) q1 q2 q3 q4
        refine lda_n_9_0 (pc := 39) d_On_can_39 ?_
        refine g_On_27 (pc := 40) rfl d_On_can_40 (by assumption) (by assumption) ?_
        refine g_On_72 (pc := 43) rfl d_On_can_43 (by assumption) (by assumption) ?_
        refine ldi_n_9_1 (pc := 46) d_On_can_46 ?_
        refine r_aald14 (pc := 47) d_On_can_47 (by assumption) (by first | assumption | exact vp_in_nI (by omega) (by omega) | (unfold vp_in; decide)) (by assumption) ?_
        refine sta_9_4 (pc := 48) d_On_can_48 rfl ?_
        refine ldi_n_9_2 (pc := 50) d_On_can_50 ?_
        refine r_if_ne (pc := 51) (tgt := 59) d_On_can_51 (by decide) (fun c4 => ?_) (fun c4 => ?_)
        · refine ldi_n_9_2 (pc := 59) d_On_can_59 ?_
          refine r_iconst (pc := 60) (v := 1) d_On_can_60 rfl ?_
          refine r_icmp_ne (pc := 61) (tgt := 69) d_On_can_61 (by decide) (fun c5 => ?_) (fun c5 => ?_)
          · rw [show cmo w = 10 by unfold cmo; rw [if_neg c4, if_neg c5]] at hR
            refine r_bipush (pc := 69) (v := 9) d_On_can_69 rfl ?_
            refine sti_9_5 (pc := 71) d_On_can_71 rfl ?_
            refine r_iconst (pc := 73) (v := 0) d_On_can_73 rfl ?_
            refine sti_9_6 (pc := 74) d_On_can_74 rfl ?_
            refine r_bipush (pc := 76) (v := (-5)) d_On_can_76 rfl ?_
            refine sti_9_7 (pc := 78) d_On_can_78 rfl ?_
            refine ldi_9_5 (pc := 80) d_On_can_80 ?_
            refine sti_9_8 (pc := 82) d_On_can_82 rfl ?_
            exact key 10 (by omega) _ _ _ _ ok2 is2 fr2 nn2 (fun v => qEq.rf) hR
          · rw [show cmo w = 61 by unfold cmo; rw [if_neg c4, if_pos c5]] at hR
            refine r_bipush (pc := 64) (v := 60) d_On_can_64 rfl ?_
            refine r_goto (pc := 66) (tgt := 71) d_On_can_66 (by decide) ?_
            refine sti_9_5 (pc := 71) d_On_can_71 rfl ?_
            refine r_iconst (pc := 73) (v := 0) d_On_can_73 rfl ?_
            refine sti_9_6 (pc := 74) d_On_can_74 rfl ?_
            refine r_bipush (pc := 76) (v := (-5)) d_On_can_76 rfl ?_
            refine sti_9_7 (pc := 78) d_On_can_78 rfl ?_
            refine ldi_9_5 (pc := 80) d_On_can_80 ?_
            refine sti_9_8 (pc := 82) d_On_can_82 rfl ?_
            exact key 61 (by omega) _ _ _ _ ok2 is2 fr2 nn2 (fun v => qEq.rf) hR
        · rw [show cmo w = 100 by unfold cmo; rw [if_pos c4]] at hR
          refine r_bipush (pc := 54) (v := 99) d_On_can_54 rfl ?_
          refine r_goto (pc := 56) (tgt := 71) d_On_can_56 (by decide) ?_
          refine sti_9_5 (pc := 71) d_On_can_71 rfl ?_
          refine r_iconst (pc := 73) (v := 0) d_On_can_73 rfl ?_
          refine sti_9_6 (pc := 74) d_On_can_74 rfl ?_
          refine r_bipush (pc := 76) (v := (-5)) d_On_can_76 rfl ?_
          refine sti_9_7 (pc := 78) d_On_can_78 rfl ?_
          refine ldi_9_5 (pc := 80) d_On_can_80 ?_
          refine sti_9_8 (pc := 82) d_On_can_82 rfl ?_
          exact key 100 (by omega) _ _ _ _ ok2 is2 fr2 nn2 (fun v => qEq.rf) hR
      · rw [if_pos c3] at hR
        refine r_iconst (pc := 26) (v := (-1)) d_On_can_26 rfl ?_
        exact r_iret d_On_can_27 rfl (by omega) (by omega) (⟨by rw [← hR], Or.inl rfl, qFr.rf, h33, rfl, n33.rf⟩)
end U5
