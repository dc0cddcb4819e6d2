/-! acts and kinds, told exactly -/
def kabN (k : Int32) : Nat → Int32 → Int32
  | 0, a => a
  | n + 1, a => if a = k then a else kabN k n (qkabove a)
def ca_taken (I : qI) (c : Nat) (x k : Int32) : Int32 := if qwithin k 0 6 = 0 then -2 else if qwithin x 0 (nI c - 1) = 0 then -11 else if kabN k 7 (I (qm 6 x.toNatClampNeg) 1) = k then I (qm 6 x.toNatClampNeg) 1 else -12
def ca_act (I : qI) (c : Nat) (x a y : Int32) : Int32 × List Int32 := if qwithin x 0 (nI c - 1) = 0 then (0, []) else if qwithin a 0 2 = 0 then (0, []) else qbody (I (qm 6 x.toNatClampNeg) 0) (I (qm 6 x.toNatClampNeg) 2) (I (qm 6 x.toNatClampNeg) 1) 21 (I (qm 6 x.toNatClampNeg) 1) a y
section Y10
variable {E : qE} {S : qSh} {I : qI} {J : qJ} {w0 w1 w2 bl : Nat}
theorem c_On_takenX {x k : Int32} {c : Nat} (hO : isOn S w0 w1 w2 bl) (hc : I 6 1 = nI c) (hc6 : c ≤ 6) : qMet E y_On_taken b_On_taken 6 (some .int) 2 0 0 [.ref (qb E + 0), .int x, .int k] S I J (qPi S I J (ca_taken I c x k)) := by
  have hO0 := hO
  obtain ⟨oT, oR0, oR1, oR2, oR3, oR5, oR6, oR8, oR9, oR10, hI1, hN, hA, hM3, hRe, hBl, hRo, hAc, tA, tR, tT⟩ := hO
  have hN0 := hN
  obtain ⟨mT, mA1, mA2, mR0, mR2, mR5, mR6, mR7, mR8, nS, nP, nB, nI0, mRp, mMp⟩ := hN
  refine qMet.of (L := [some (.ref (qb E + 0)), some (.int x), some (.int k), none, none, none]) (by decide +kernel) (Nat.le_of_ble_eq_true rfl) rfl ?_
  refine ldi_n_6_2 (pc := 0) d_On_taken_0 ?_
  refine r_iconst (pc := 1) (v := 0) d_On_taken_1 rfl ?_
  refine r_bipush (pc := 2) (v := 6) d_On_taken_2 rfl ?_
  refine r_callS (pc := 4) (As := [.int k, .int 0, .int 6]) k_On_64 sw_On_within rfl (by decide) d_On_taken_4 (c_On_within _ _ _) rfl (Nat.le_of_ble_eq_true rfl) (by omega) (by omega) (by omega) (fun v S' I' J' hq => ?_)
  obtain ⟨rfl, rfl, rfl, rfl⟩ := hq
  refine r_if_ne (pc := 7) (tgt := 13) d_On_taken_7 (by decide) (fun c0 => ?_) (fun c0 => ?_)
  · refine lda_n_6_0 (pc := 13) d_On_taken_13 ?_
    refine ldi_n_6_1 (pc := 14) d_On_taken_14 ?_
    refine r_callV (pc := 15) (As := [.int x]) (k := 8) (N := 11) (T := T_On) k_On_82 im_On_isMourner se_On_isMourner rfl (by decide) rfl (by decide) d_On_taken_15 (by assumption) (c_On_isMourner hO0) rfl (Nat.le_of_ble_eq_true rfl) (by omega) (by omega) (by omega) (fun v S' I' J' hq => ?_)
    obtain ⟨rfl, rfl, rfl, rfl⟩ := hq
    rw [hc]
    refine r_if_ne (pc := 18) (tgt := 24) d_On_taken_18 (by decide) (fun c1 => ?_) (fun c1 => ?_)
    · obtain ⟨p, hp, rfl⟩ := qisM_y (by omega) c1
      have hin : vp_in (nI p) 6 := vp_in_nI (by omega) (by omega)
      have hRc : qR S (6 + 1) (nI p).toNatClampNeg = some (qm 6 p) := by rw [qcl (by omega)]; exact mRp p (by omega)
      have hMT : qT S (qm 6 p) 2 := (mMp p (by omega)).1
      have fin : ∀ (kd a lf : Int32), qW E y_On_taken b_On_taken (some .int) 2 0 0 (qPi S I J (if a = k then kd else -12)) 0 0 70 [some (.ref (qb E + 0)), some (.int (nI p)), some (.int k), some (.int kd), some (.int a), some (.int lf)] [] S I J := by
        intro kd a lf
        refine ldi_6_4 (pc := 70) d_On_taken_70 ?_
        refine ldi_n_6_2 (pc := 72) d_On_taken_72 ?_
        refine r_icmp_ne (pc := 73) (tgt := 80) d_On_taken_73 (by decide) (fun d1 => ?_) (fun d1 => ?_)
        · rw [if_neg d1]
          refine r_bipush (pc := 80) (v := (-12)) d_On_taken_80 rfl ?_
          exact r_iret d_On_taken_82 rfl (by omega) (by omega) (⟨rfl, rfl, rfl, rfl⟩)
        · rw [if_pos d1]
          refine ldi_n_6_3 (pc := 76) d_On_taken_76 ?_
          refine r_goto (pc := 77) (tgt := 82) d_On_taken_77 (by decide) ?_
          exact r_iret d_On_taken_82 rfl (by omega) (by omega) (⟨rfl, rfl, rfl, rfl⟩)
      have key : ∀ (m : Nat), m ≤ 7 → ∀ (kd a : Int32), qW E y_On_taken b_On_taken (some .int) 2 0 0 (qPi S I J (if kabN k m a = k then kd else -12)) 0 0 46 [some (.ref (qb E + 0)), some (.int (nI p)), some (.int k), some (.int kd), some (.int a), some (.int (nI m))] [] S I J := by
        intro m
        induction m with
        | zero =>
          intro _ kd a
          refine ldi_6_5 (pc := 46) d_On_taken_46 ?_
          refine r_if_le (pc := 48) (tgt := 70) d_On_taken_48 (by decide) (fun d1 => ?_) (fun d1 => ?_)
          · exact fin _ _ _
          · exact absurd (by decide) d1
        | succ m ih =>
          intro hm kd a
          refine ldi_6_5 (pc := 46) d_On_taken_46 ?_
          refine r_if_le (pc := 48) (tgt := 70) d_On_taken_48 (by decide) (fun d1 => ?_) (fun d1 => ?_)
          · exact absurd d1 (nI_nle (by omega) (by omega))
          · refine ldi_6_4 (pc := 51) d_On_taken_51 ?_
            refine ldi_n_6_2 (pc := 53) d_On_taken_53 ?_
            refine r_icmp_eq (pc := 54) (tgt := 70) d_On_taken_54 (by decide) (fun d2 => ?_) (fun d2 => ?_)
            · have e : kabN k (m + 1) a = a := by rw [kabN, if_pos d2]
              rw [e]; exact fin _ _ _
            · have e : kabN k (m + 1) a = kabN k m (qkabove a) := by rw [kabN, if_neg d2]
              rw [e]
              refine ldi_6_4 (pc := 57) d_On_taken_57 ?_
              refine r_callS (pc := 59) (As := [.int a]) k_On_274 sw_On_kindAbove rfl (by decide) d_On_taken_59 (c_On_kindAbove a) rfl (Nat.le_of_ble_eq_true rfl) (by omega) (by omega) (by omega) (fun v S' I' J' hq => ?_)
              obtain ⟨rfl, rfl, rfl, rfl⟩ := hq
              refine sti_6_4 (pc := 62) d_On_taken_62 rfl ?_
              refine inc_6_5 (pc := 64) (w := (-1)) d_On_taken_64 rfl rfl ?_
              refine r_goto (pc := 67) (tgt := 46) d_On_taken_67 (by decide) ?_
              rw [pk_m1]
              exact ih (by omega) _ _
      have ea : ca_taken I c (nI p) k = (if kabN k 7 (I (qm 6 p) 1) = k then I (qm 6 p) 1 else -12) := by
        unfold ca_taken; rw [if_neg c0, if_neg c1, qcl (by omega)]
      rw [ea]
      refine lda_n_6_0 (pc := 24) d_On_taken_24 ?_
      refine g_On_23 (pc := 25) rfl d_On_taken_25 (by assumption) (by assumption) ?_
      refine g_On_72 (pc := 28) rfl d_On_taken_28 (by assumption) (by assumption) ?_
      refine ldi_n_6_1 (pc := 31) d_On_taken_31 ?_
      refine r_aald14 (pc := 32) d_On_taken_32 (by assumption) (by first | assumption | exact vp_in_nI (by omega) (by omega) | (unfold vp_in; decide)) (by assumption) ?_
      refine g_On_86 (pc := 33) rfl d_On_taken_33 (by assumption) ?_
      refine sti_n_6_3 (pc := 36) d_On_taken_36 rfl ?_
      refine ldi_n_6_3 (pc := 37) d_On_taken_37 ?_
      refine sti_6_4 (pc := 38) d_On_taken_38 rfl ?_
      refine r_above (pc := 40) fl_On_271 d_On_taken_40 ?_
      refine r_alen0 (pc := 43) d_On_taken_43 ?_
      refine sti_6_5 (pc := 44) d_On_taken_44 rfl ?_
      exact key 7 (by omega) _ _
    · refine r_bipush (pc := 21) (v := (-11)) d_On_taken_21 rfl ?_
      exact r_iret d_On_taken_23 rfl (by omega) (by omega) (⟨by unfold ca_taken; rw [if_neg c0, if_pos c1], rfl, rfl, rfl⟩)
  · refine r_bipush (pc := 10) (v := (-2)) d_On_taken_10 rfl ?_
    exact r_iret d_On_taken_12 rfl (by omega) (by omega) (⟨by unfold ca_taken; rw [if_pos c0], rfl, rfl, rfl⟩)
theorem c_On_actX {x a y : Int32} {c : Nat} (hO : isOn S w0 w1 w2 bl) (hc : I 6 1 = nI c) (hc6 : c ≤ 6) : qMet E y_On_act b_On_act 5 (some .int) 25 0 0 [.ref (qb E + 0), .int x, .int a, .int y] S I J (fun v S' I' J' => v = some (.int (ca_act I c x a y).1) ∧ S = S' ∧ qFr (fun b => b = 99 ∨ b = 100) I I' ∧ J = J' ∧ I' = qtrace (qup I 99 1 0) (ca_act I c x a y).2) := by
  have hO0 := hO
  obtain ⟨oT, oR0, oR1, oR2, oR3, oR5, oR6, oR8, oR9, oR10, hI1, hN, hA, hM3, hRe, hBl, hRo, hAc, tA, tR, tT⟩ := hO
  have hN0 := hN
  obtain ⟨mT, mA1, mA2, mR0, mR2, mR5, mR6, mR7, mR8, nS, nP, nB, nI0, mRp, mMp⟩ := hN
  have aT := hAc.1
  refine qMet.of (L := [some (.ref (qb E + 0)), some (.int x), some (.int a), some (.int y), none]) (by decide +kernel) (Nat.le_of_ble_eq_true rfl) rfl ?_
  have fr1 : qFr (fun b => b = 99 ∨ b = 100) I (qup I 99 1 0) := qFr.rf.up (Or.inl rfl)
  have hc' : qup I 99 1 0 6 1 = nI c := by rw [qup_o (by decide)]; exact hc
  refine lda_n_5_0 (pc := 0) d_On_act_0 ?_
  refine g_On_53 (pc := 1) rfl d_On_act_1 (by assumption) (by assumption) ?_
  refine r_iconst (pc := 4) (v := 0) d_On_act_4 rfl ?_
  refine p_On_261 (pc := 5) rfl d_On_act_5 (by assumption) ?_
  refine lda_n_5_0 (pc := 8) d_On_act_8 ?_
  refine ldi_n_5_1 (pc := 9) d_On_act_9 ?_
  refine r_callV (pc := 10) (As := [.int x]) (k := 8) (N := 11) (T := T_On) k_On_82 im_On_isMourner se_On_isMourner rfl (by decide) rfl (by decide) d_On_act_10 (by assumption) (c_On_isMourner hO0) rfl (Nat.le_of_ble_eq_true rfl) (by omega) (by omega) (by omega) (fun v S' I' J' hq => ?_)
  obtain ⟨rfl, rfl, rfl, rfl⟩ := hq
  rw [hc']
  refine r_if_eq (pc := 13) (tgt := 25) d_On_act_13 (by decide) (fun c1 => ?_) (fun c1 => ?_)
  · have ea : ca_act I c x a y = (0, []) := by unfold ca_act; rw [if_pos c1]
    refine r_iconst (pc := 25) (v := 0) d_On_act_25 rfl ?_
    exact r_iret d_On_act_26 rfl (by omega) (by omega) (⟨by rw [ea], rfl, fr1, rfl, by rw [ea]; rfl⟩)
  · refine ldi_n_5_2 (pc := 16) d_On_act_16 ?_
    refine r_iconst (pc := 17) (v := 0) d_On_act_17 rfl ?_
    refine r_iconst (pc := 18) (v := 2) d_On_act_18 rfl ?_
    refine r_callS (pc := 19) (As := [.int a, .int 0, .int 2]) k_On_64 sw_On_within rfl (by decide) d_On_act_19 (c_On_within _ _ _) rfl (Nat.le_of_ble_eq_true rfl) (by omega) (by omega) (by omega) (fun v S' I' J' hq => ?_)
    obtain ⟨rfl, rfl, rfl, rfl⟩ := hq
    refine r_if_ne (pc := 22) (tgt := 27) d_On_act_22 (by decide) (fun c2 => ?_) (fun c2 => ?_)
    · have ea : ca_act I c x a y = qbody (I (qm 6 x.toNatClampNeg) 0) (I (qm 6 x.toNatClampNeg) 2) (I (qm 6 x.toNatClampNeg) 1) 21 (I (qm 6 x.toNatClampNeg) 1) a y := by unfold ca_act; rw [if_neg c1, if_neg c2]
      obtain ⟨p, hp, rfl⟩ := qisM_y (by omega) c1
      rw [qcl (by omega)] at ea
      have er : qup I 99 1 0 (qm 6 p) = I (qm 6 p) := qup_row (by unfold qm; omega)
      have hin : vp_in (nI p) 6 := vp_in_nI (by omega) (by omega)
      have hRc : qR S (6 + 1) (nI p).toNatClampNeg = some (qm 6 p) := by rw [qcl (by omega)]; exact mRp p (by omega)
      have hMo : isMo S (qm 6 p) := mMp p (by omega)
      have hMT : qT S (qm 6 p) 2 := hMo.1
      have hi := qm_hi (o := 6) (p := p) (by omega)
      refine lda_n_5_0 (pc := 27) d_On_act_27 ?_
      refine g_On_23 (pc := 28) rfl d_On_act_28 (by assumption) (by assumption) ?_
      refine g_On_72 (pc := 31) rfl d_On_act_31 (by assumption) (by assumption) ?_
      refine ldi_n_5_1 (pc := 34) d_On_act_34 ?_
      refine r_aald14 (pc := 35) d_On_act_35 (by assumption) (by first | assumption | exact vp_in_nI (by omega) (by omega) | (unfold vp_in; decide)) (by assumption) ?_
      refine sta_5_4 (pc := 36) d_On_act_36 rfl ?_
      refine lda_n_5_0 (pc := 38) d_On_act_38 ?_
      refine g_On_53 (pc := 39) rfl d_On_act_39 (by assumption) (by assumption) ?_
      refine lda_5_4 (pc := 42) d_On_act_42 ?_
      refine lda_5_4 (pc := 44) d_On_act_44 ?_
      refine g_On_86 (pc := 46) rfl d_On_act_46 (by assumption) ?_
      refine ldi_n_5_2 (pc := 49) d_On_act_49 ?_
      refine ldi_n_5_3 (pc := 50) d_On_act_50 ?_
      refine r_iconst (pc := 51) (v := 0) d_On_act_51 rfl ?_
      refine r_callVN (pc := 52) (As := [.ref (qb E + qm 6 p), .int (qup I 99 1 0 (qm 6 p) 1), .int a, .int y, .int (nI 0)]) (k := 0) (N := 2) (T := T_Ac) k_On_264 im_Ac_body se_Ac_body rfl (by decide) rfl (by decide) d_On_act_52 aT (c_Ac_body hAc hMo (by omega) (by omega) 21 0 _ _ _ _ 0 rfl (by rw [qup_at]; rfl) (by decide)) rfl (Nat.le_of_ble_eq_true rfl) (by omega) (by omega) (by omega) (fun v S' I' J' hq => ?_)
      obtain ⟨rfl, rfl, rfl, rfl⟩ := hq
      exact r_iret d_On_act_55 rfl (by omega) (by omega) (⟨by rw [ea, er], rfl, fun b hb => (qtrace_o (fun e => hb (Or.inl e)) (fun e => hb (Or.inr e)) _ _).trans (fr1 b hb), rfl, by rw [ea, er]⟩)
    · have ea : ca_act I c x a y = (0, []) := by unfold ca_act; rw [if_neg c1, if_pos c2]
      refine r_iconst (pc := 25) (v := 0) d_On_act_25 rfl ?_
      exact r_iret d_On_act_26 rfl (by omega) (by omega) (⟨by rw [ea], rfl, fr1, rfl, by rw [ea]; rfl⟩)
end Y10
/-! where the islands of the living and of the image stand, and that calls leave them -/
/-- both pointers, and the rows behind them, as they were -/
def cW (S S' : qSh) (I I' : qI) : Prop := qR S' 6 5 = qR S 6 5 ∧ qR S' 60 5 = qR S 60 5 ∧ ∀ w, (qR S 6 5 = some w ∨ qR S 60 5 = some w) → ∀ b, b ≤ 3 → I' (w + b) = I (w + b)
theorem cW.rf {S : qSh} {I : qI} : cW S S I I := ⟨rfl, rfl, fun _ _ _ _ => rfl⟩
theorem isOn.p6 {S : qSh} {w0 w1 w2 bl : Nat} (hO : isOn S w0 w1 w2 bl) : qR S 6 5 = some w0 ∧ qR S 60 5 = some w2 := by
  obtain ⟨a1, a2, a3, a4, a5, a6, a7, a8, a9, a10, b0, b1, b2, b3, -⟩ := hO
  exact ⟨b1.2.2.2.2.2.1, b3.2.2.2.2.2.1⟩
section V10
variable {S S' : qSh} {I I' : qI} {w0 w1 w2 bl : Nat}
theorem cW.gen (hO : isOn S w0 w1 w2 bl) (h6 : qR S' 6 5 = qR S 6 5) (h60 : qR S' 60 5 = qR S 60 5) (f0 : ∀ b, b ≤ 3 → I' (w0 + b) = I (w0 + b)) (f2 : ∀ b, b ≤ 3 → I' (w2 + b) = I (w2 + b)) : cW S S' I I' := by
  obtain ⟨p6, p60⟩ := hO.p6
  refine ⟨h6, h60, fun w hw b hb => ?_⟩
  rcases hw with q | q
  · rw [p6] at q; obtain rfl := Option.some.inj q; exact f0 b hb
  · rw [p60] at q; obtain rfl := Option.some.inj q; exact f2 b hb
theorem cW.of (hO : isOn S w0 w1 w2 bl) (e0 : qW1 w0) (e2 : qW1 w2) (hS : S = S') (fr : ∀ a, (a < 6 ∨ (89 ≤ a ∧ a < 99) ∨ 148 ≤ a) → I' a = I a) : cW S S' I I' := by
  subst hS
  unfold qW1 at e0 e2
  exact cW.gen hO rfl rfl (fun b hb => fr _ (by omega)) (fun b hb => fr _ (by omega))
theorem cW.qpr (hO : isOn S w0 w1 w2 bl) (e0 : qW1 w0) (e2 : qW1 w2) (s : w0 = w2 ∨ w0 + 4 < w2 ∨ w2 + 4 < w0) (hS : S = S') (fr : qFr (qPr w0) I I') : cW S S' I I' := by
  subst hS
  unfold qW1 at e0 e2
  exact cW.gen hO rfl rfl (fun b hb => fr _ (by unfold qPr; omega)) (fun b hb => fr _ (by unfold qPr; omega))
theorem cW.ap (hO : isOn S w0 w1 w2 bl) (e0 : qW1 w0) (e2 : qW1 w2) (s : w0 = w2 ∨ w0 + 4 < w2 ∨ w2 + 4 < w0) (hS : S' = S ∨ S' = qsetR S 33 5 (some w0)) (fr : qFr (aP w0) I I') : cW S S' I I' := by
  unfold qW1 at e0 e2
  have h : qR S' 6 5 = qR S 6 5 ∧ qR S' 60 5 = qR S 60 5 := by
    rcases hS with rfl | rfl
    · exact ⟨rfl, rfl⟩
    · exact ⟨show qup (qR S) 33 5 (some w0) 6 5 = qR S 6 5 from qup_o (by decide), show qup (qR S) 33 5 (some w0) 60 5 = qR S 60 5 from qup_o (by decide)⟩
  exact cW.gen hO h.1 h.2 (fun b hb => fr _ (by unfold aP; omega)) (fun b hb => fr _ (by unfold aP; omega))
theorem ci_set_fr {c : Nat} {p x n : Int32} (hc : c ≤ 6) {a : Nat} (ha : a < 21 ∨ 32 < a) : ci_set I c p x n a = I a := by
  unfold ci_set
  split
  · rfl
  · rename_i h1
    obtain ⟨m, m1, rfl⟩ := qisM_y (show c < 2 ^ 31 by omega) h1
    rw [qcl (by omega)]
    (repeat' split) <;> first | rfl | exact qup_row (by unfold qm; omega)
theorem ci_done_fr {c : Nat} {p b : Int32} (hc : c ≤ 6) {a : Nat} (ha : a < 21 ∨ 32 < a) : ci_done I c p b a = I a := by
  unfold ci_done
  split
  · rfl
  · rename_i h1
    obtain ⟨m, m1, rfl⟩ := qisM_y (show c < 2 ^ 31 by omega) h1
    rw [qcl (by omega)]
    exact qup_row (by unfold qm; omega)
theorem ci_row_fr {c : Nat} {p r n : Int32} (hc : c ≤ 6) {a : Nat} (ha : a < 21 ∨ 32 < a) : ci_row I c p r n a = I a := by
  unfold ci_row
  split
  · rfl
  · rename_i h1
    obtain ⟨m, m1, rfl⟩ := qisM_y (show c < 2 ^ 31 by omega) h1
    rw [qcl (by omega)]
    (repeat' split) <;> first | rfl | exact qup_row (by unfold qm; omega)
theorem ci_list_fr {c l : Nat} {p : Int32} {a : Nat} (h6 : a ≠ 6) (h8 : a ≠ 8) : ci_list I c l p a = I a := by
  unfold ci_list
  (repeat' split) <;> first | rfl | exact qup_row h6 | (rw [qup_row h6, qup_row h8])
theorem ci_swap_fr {c l : Nat} {p q : Int32} {a : Nat} (h8 : a ≠ 8) : ci_swap I c l p q a = I a := by
  unfold ci_swap
  (repeat' split) <;> first | rfl | (rw [qup_row h8, qup_row h8])
theorem qadd_fr {o k : Nat} {x y z : Int32} {a : Nat} (h : a < o ∨ o + 3 < a) : qadd I o k x y z a = I a := by
  unfold qadd
  rw [qup_row (by omega), qup_row (by omega), qup_row (by omega), qup_row (by omega)]
theorem ci_see_fr {c z : Nat} {p x n : Int32} {a : Nat} (h : a < 9 ∨ 12 < a) : ci_see I c z p x n a = I a := by
  unfold ci_see
  (repeat' split) <;> first | rfl | exact qup_row (by omega) | exact qadd_fr (by omega)
theorem ci_plan_fr {c z : Nat} {x p : Int32} {a : Nat} (h : a < 13 ∨ 16 < a) : ci_plan I c z x p a = I a := by
  unfold ci_plan
  (repeat' split) <;> first | rfl | exact qup_row (by omega) | exact qadd_fr (by omega)
theorem ci_book_fr {c z : Nat} {p x : Int32} {a : Nat} (h : a < 17 ∨ 20 < a) : ci_book I c z p x a = I a := by
  unfold ci_book
  (repeat' split) <;> first | rfl | exact qup_row (by omega) | exact qadd_fr (by omega)
theorem ci_feed_fr {z : Nat} {x : Int32} {a : Nat} (h7 : a ≠ 87) (h8 : a ≠ 88) : ci_feed I z x a = I a := by
  unfold ci_feed
  (repeat' split) <;> first | rfl | (rw [qup_row h7, qup_row h8])
theorem ci_tape_fr {tp s n : Int32} {a : Nat} (h : a < 102 ∨ 113 < a) : ci_tape I tp s n a = I a := by
  unfold ci_tape
  split
  · rfl
  · rename_i c1
    obtain ⟨t, ht, rfl⟩ := qtape_y c1
    have ec : ctp (nI t) = 102 + 2 * t := by unfold ctp; rw [qcl (by omega)]
    rw [ec]
    (repeat' split) <;> first | rfl | (rw [qup_row (by omega), qup_row (by omega)])
theorem ci_mo_fr {c : Nat} {kd v g : Int32} (hc : c ≤ 6) {a : Nat} (h6 : a ≠ 6) (ha : a < 21 ∨ 32 < a) : cMournerI I c kd v g a = I a := by
  unfold cMournerI
  (repeat' split) <;> first | rfl | skip
  rw [qup_row h6]; unfold qcomes
  rw [qfil_o (by unfold qm; omega), qup_row (by unfold qm; omega), qup_row (by unfold qm; omega), qup_row (by unfold qm; omega), qup_row (by unfold qm; omega), qup_row (by unfold qm; omega), qup_row (by unfold qm; omega)]
theorem ci_pass_fr {w d : Nat} {n : Int32} (hok : qMgOK I 6 9999) {a : Nat} (ha : a < 6 ∨ 32 < a) : ci_pass I w d n a = I a := by
  unfold ci_pass
  split
  · rfl
  · split
    · exact qgoN_row hok (by omega) _
    · rfl
theorem cW.ps {d : Nat} {n : Int32} (hO : isOn S w0 w1 w2 bl) (e0 : qW1 w0) (e2 : qW1 w2) (s : w0 = w2 ∨ w0 + 4 < w2 ∨ w2 + 4 < w0) (hS : S = S') (he : qEq (w0 + 4) (ci_pass I w0 d n) I') (hok : qMgOK I 6 9999) : cW S S' I I' := by
  subst hS
  unfold qW1 at e0 e2
  exact cW.gen hO rfl rfl (fun b hb => by rw [he _ (by omega), ci_pass_fr hok (by omega)]) (fun b hb => by rw [he _ (by omega), ci_pass_fr hok (by omega)])
end V10
/-- .. when the image is made: its island is that of the living -/
def cWi (S S' : qSh) (I I' : qI) : Prop := qR S' 6 5 = qR S 6 5 ∧ qR S' 60 5 = qR S 6 5 ∧ ∀ w, qR S 6 5 = some w → ∀ b, b ≤ 3 → I' (w + b) = I (w + b)
/-- .. when it comes back -/
def cWu (S S' : qSh) (I I' : qI) : Prop := qR S' 6 5 = qR S 60 5 ∧ qR S' 60 5 = qR S 60 5 ∧ ∀ w, qR S 60 5 = some w → ∀ b, b ≤ 3 → I' (w + b) = I (w + b)
