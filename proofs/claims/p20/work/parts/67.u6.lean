/-! the reference's calls on days ahead, told exactly -/
def ga_on (M : qI) (c : Nat) (n x : Int32) : Int32 := aOn c n x (fun k => qsumP (mgoN M k 119) c) (fun k => qsumP (mgoN M k 120) c) (fun k p => mgoN M k 119 p)
def ga_turn (M : qI) (c : Nat) (x : Int32) : Int32 := if qwithin x 0 (nI c - 1) = 0 then -1 else aTurn (fun k => if mgoN M k 120 x.toNatClampNeg = 1 then 1 else 0) 61 0
def ga_empty (M : qI) (c : Nat) : Int32 := aTurn (fun k => if qsumP (mgoN M k 120) c = nI c then 1 else 0) 61 0
def mplan1 (I : qI) (g w : Int32) : qI := if g = 0 then mgo1 I else if g = 3 then qup I 117 w.toNatClampNeg (qmin 99 (I 117 w.toNatClampNeg + 10)) else qup I 120 w.toNatClampNeg (if g = 1 then 1 else 0)
def mplanN (M : qI) : Nat → qI
  | 0 => M
  | r + 1 => mplan1 (mplanN M r) (M 134 r) (M 135 r)
def ga_ends (M : qI) (c z : Nat) (x : Int32) : Int32 := if qwithin x 0 1 = 0 then -1 else if x = 0 then qsumP (mplanN M z 119) c else qsumP (mplanN M z 120) c
def mseenN (I : qI) (p z : Nat) : Nat → Int32
  | 0 => 1
  | j + 1 => if I 131 (z - (j + 1)) = nI p ∧ ¬ mpain I p (I 114 10 + I 133 (z - (j + 1))) (qmin 99 (I 118 p + I 133 (z - (j + 1)))) = I 132 (z - (j + 1)) then 0 else mseenN I p z j
def ga_can (I : qI) (c zz : Nat) (x w z : Int32) : Int32 := aCan c x w z (fun p n => mseenN (qup I (mca w) p (nI n)) p zz zz)
theorem mseenN_only {I K : qI} {p z : Nat} (h : q130 I K) : ∀ j, mseenN K p z j = mseenN I p z j := by
  intro j
  induction j with
  | zero => rfl
  | succ j ih => rw [mseenN, mseenN, ih, h 131 (by decide), h 132 (by decide), h 133 (by decide), h 114 (by decide), h 118 (by decide), mpain_only h]
theorem mseenN_b {I : qI} {p z : Nat} : ∀ j, qbool (mseenN I p z j) := by
  intro j
  induction j with
  | zero => exact Or.inr rfl
  | succ j ih =>
    rw [mseenN]
    split
    · exact Or.inl rfl
    · exact ih
abbrev qAX (S : qSh) (I : qI) (J : qJ) (R : qI → Int32) : qPost := fun v S' I' J' => (∃ M, (∀ a, a ≠ 140 → M a = I a) ∧ v = some (.int (R M))) ∧ S = S' ∧ mSame I I' ∧ J = J'
theorem mgo_st {I2 K K2 : qI} {k : Nat} (h : q130 (mgoN I2 k) K) (hg : q130 (mgo1 K) K2) : q130 (mgoN I2 (k + 1)) K2 := qOnly.tr (mgo1_only h) hg
section U6
variable {E : qE} {S : qSh} {I : qI} {J : qJ}
theorem c_Md_onX {n x : Int32} {c : Nat} (hM : isMd S) (h : mDay I 9999) (hc : I 114 0 = nI c) (c6 : c ≤ 6) : qMet E y_Md_on b_Md_on 4 (some .int) 5 0 0 [.ref (qb E + 114), .int n, .int x] S I J (qAX S I J (fun M => ga_on M c n x)) := by
  have hT := hM.1
  have f5 := hM.r 4 rfl
  have g5 := hM.a 4 rfl
  have f41 := hM.r 25 rfl
  have g41 := hM.a 25 rfl
  unfold ga_on aOn
  refine qMet.of (L := [some (.ref (qb E + 114)), some (.int n), some (.int x), none]) (by decide +kernel) (Nat.le_of_ble_eq_true rfl) rfl ?_
  have body : (x = 0 ∨ x = 1 ∨ ¬ qwithin (x - 10) 0 (nI c - 1) = 0) → qW E y_Md_on b_Md_on (some .int) 5 0 0 (qAX S I J (fun M => if x = 0 ∨ x = 1 ∨ ¬ qwithin (x - 10) 0 (nI c - 1) = 0 then (if qwithin n 0 60 = 0 then -2 else if x = 0 then qsumP (mgoN M n.toNatClampNeg 119) c else if x = 1 then qsumP (mgoN M n.toNatClampNeg 120) c else mgoN M n.toNatClampNeg 119 (x - 10).toNatClampNeg) else -1)) 0 0 22 [some (.ref (qb E + 114)), some (.int n), some (.int x), none] [] S I J := by
    intro hx
    simp only [if_pos hx]
    refine ldi_n_4_1 (pc := 22) d_Md_on_22 ?_
    refine r_iconst (pc := 23) (v := 0) d_Md_on_23 rfl ?_
    refine r_bipush (pc := 24) (v := 60) d_Md_on_24 rfl ?_
    refine r_callS (pc := 26) (As := [.int n, .int 0, .int 60]) k_Md_120 sw_Md_within rfl (by decide) d_Md_on_26 (c_Md_within n 0 60) rfl (Nat.le_of_ble_eq_true rfl) (by omega) (by omega) (by omega) (fun v S' I' J' hq => ?_)
    obtain ⟨rfl, rfl, rfl, rfl⟩ := hq
    refine r_if_ne (pc := 29) (tgt := 35) d_Md_on_29 (by decide) (fun c2 => ?_) (fun c2 => ?_)
    · simp only [if_neg c2]
      obtain ⟨m, hm, rfl⟩ := q60_z c2
      rw [qcl (n := m) (by omega)]
      refine lda_n_4_0 (pc := 35) d_Md_on_35 ?_
      refine lda_n_4_0 (pc := 36) d_Md_on_36 ?_
      refine g_Md_88 (pc := 37) rfl d_Md_on_37 (by assumption) (by assumption) ?_
      refine r_callV (pc := 40) (As := [.ref (qb E + 140)]) (k := 9) (N := 56) (T := T_Md) k_Md_265 im_Md_keep se_Md_keep rfl (by decide) rfl (by decide) d_Md_on_40 hT (c_Md_keep hM g41 n140) rfl (Nat.le_of_ble_eq_true rfl) (by omega) (by omega) (by omega) (fun v S' I2 J' hq => ?_)
      obtain ⟨rfl, rfl, ⟨k1, k2⟩, rfl⟩ := hq
      refine r_iconst (pc := 43) (v := 0) d_Md_on_43 rfl ?_
      refine sti_n_4_3 (pc := 44) d_Md_on_44 rfl ?_
      rw [q0]
      have key : ∀ k, k ≤ m → ∀ K, mRun I2 (9999 + k) K → q130 (mgoN I2 k) K → qW E y_Md_on b_Md_on (some .int) 5 0 0 (qAX S I J (fun M => if x = 0 then qsumP (mgoN M m 119) c else if x = 1 then qsumP (mgoN M m 120) c else mgoN M m 119 (x - 10).toNatClampNeg)) 0 0 45 [some (.ref (qb E + 114)), some (.int (nI m)), some (.int x), some (.int (nI k))] [] S K J := by
        refine qfor m ?_ ?_
        · intro K hK h2
          have e0 : K 114 0 = nI c := by rw [hK.2.2 0 (by decide), k1 114 (by decide), hc]
          have fin : ∀ r, r = (if x = 0 then qsumP (mgoN I2 m 119) c else if x = 1 then qsumP (mgoN I2 m 120) c else mgoN I2 m 119 (x - 10).toNatClampNeg) → qW E y_Md_on b_Md_on (some .int) 5 0 0 (qAX S I J (fun M => if x = 0 then qsumP (mgoN M m 119) c else if x = 1 then qsumP (mgoN M m 120) c else mgoN M m 119 (x - 10).toNatClampNeg)) 0 0 92 [some (.ref (qb E + 114)), some (.int (nI m)), some (.int x), some (.int (nI m))] [.int r] S K J := by
            intro r hr
            refine sti_n_4_3 (pc := 92) d_Md_on_92 rfl ?_
            refine lda_n_4_0 (pc := 93) d_Md_on_93 ?_
            refine lda_n_4_0 (pc := 94) d_Md_on_94 ?_
            refine g_Md_88 (pc := 95) rfl d_Md_on_95 (by assumption) (by assumption) ?_
            refine r_callV (pc := 98) (As := [.ref (qb E + 140)]) (k := 9) (N := 56) (T := T_Md) k_Md_269 im_Md_again se_Md_again rfl (by decide) rfl (by decide) d_Md_on_98 hT (c_Md_again hM g41 n140) rfl (Nat.le_of_ble_eq_true rfl) (by omega) (by omega) (by omega) (fun v S' I4 J' hq => ?_)
            obtain ⟨rfl, rfl, ⟨b1, b2, b3⟩, rfl⟩ := hq
            refine ldi_n_4_3 (pc := 101) d_Md_on_101 ?_
            exact r_iret d_Md_on_102 rfl (by omega) (by omega) (⟨⟨I2, k1, by rw [hr]⟩, rfl, mRun.back k1 k2 hK b1 b2 b3, rfl⟩)
          refine ldi_n_4_3 (pc := 45) d_Md_on_45 ?_
          refine ldi_n_4_1 (pc := 46) d_Md_on_46 ?_
          refine r_icmp_ge (pc := 47) (tgt := 60) d_Md_on_47 (by decide) (fun cc => ?_) (fun cc => ?_)
          · refine ldi_n_4_2 (pc := 60) d_Md_on_60 ?_
            refine r_if_ne (pc := 61) (tgt := 71) d_Md_on_61 (by decide) (fun c3 => ?_) (fun c3 => ?_)
            · refine ldi_n_4_2 (pc := 71) d_Md_on_71 ?_
              refine r_iconst (pc := 72) (v := 1) d_Md_on_72 rfl ?_
              refine r_icmp_ne (pc := 73) (tgt := 83) d_Md_on_73 (by decide) (fun c4 => ?_) (fun c4 => ?_)
              · obtain ⟨p, hp, ep⟩ := qisM_y (show c < 2 ^ 31 by omega) ((hx.resolve_left c3).resolve_left c4)
                have hin : vp_in (x - 10) 6 := by rw [ep]; exact vp_in_nI (by omega) (by omega)
                refine lda_n_4_0 (pc := 83) d_Md_on_83 ?_
                refine g_Md_24 (pc := 84) rfl d_Md_on_84 (by assumption) (by assumption) ?_
                refine ldi_n_4_2 (pc := 87) d_Md_on_87 ?_
                refine r_bipush (pc := 88) (v := 10) d_Md_on_88 rfl ?_
                refine r_isub (pc := 90) d_Md_on_90 ?_
                refine r_iald (pc := 91) d_Md_on_91 (by assumption) (by first | assumption | exact vp_in_nI (by omega) (by omega) | (unfold vp_in; decide)) ?_
                exact fin _ (by rw [if_neg c3, if_neg c4, h2 119 (by decide)])
              · refine lda_n_4_0 (pc := 76) d_Md_on_76 ?_
                refine r_callV (pc := 77) (As := []) (k := 9) (N := 56) (T := T_Md) k_Md_256 im_Md_allDone se_Md_allDone rfl (by decide) rfl (by decide) d_Md_on_77 hT (c_Md_allDone hM e0 c6) rfl (Nat.le_of_ble_eq_true rfl) (by omega) (by omega) (by omega) (fun v S' I' J' hq => ?_)
                obtain ⟨rfl, rfl, rfl, rfl⟩ := hq
                refine r_goto (pc := 80) (tgt := 92) d_Md_on_80 (by decide) ?_
                exact fin _ (by rw [if_neg c3, if_pos c4, h2 120 (by decide)])
            · refine lda_n_4_0 (pc := 64) d_Md_on_64 ?_
              refine r_callV (pc := 65) (As := []) (k := 9) (N := 56) (T := T_Md) k_Md_253 im_Md_allHurt se_Md_allHurt rfl (by decide) rfl (by decide) d_Md_on_65 hT (c_Md_allHurt hM e0 c6) rfl (Nat.le_of_ble_eq_true rfl) (by omega) (by omega) (by omega) (fun v S' I' J' hq => ?_)
              obtain ⟨rfl, rfl, rfl, rfl⟩ := hq
              refine r_goto (pc := 68) (tgt := 92) d_Md_on_68 (by decide) ?_
              exact fin _ (by rw [if_pos c3, h2 119 (by decide)])
          · exact absurd (nI_le (Nat.le_refl m) (by omega)) cc
        · intro k hk ih K hK h2
          refine ldi_n_4_3 (pc := 45) d_Md_on_45 ?_
          refine ldi_n_4_1 (pc := 46) d_Md_on_46 ?_
          refine r_icmp_ge (pc := 47) (tgt := 60) d_Md_on_47 (by decide) (fun cc => ?_) (fun cc => ?_)
          · exact absurd cc (nI_ge hk (by omega))
          · refine lda_n_4_0 (pc := 50) d_Md_on_50 ?_
            refine r_callV (pc := 51) (As := []) (k := 9) (N := 56) (T := T_Md) k_Md_250 im_Md_goesDay se_Md_goesDay rfl (by decide) rfl (by decide) d_Md_on_51 hT (c_Md_goesDay2 hM hK.1 (by omega)) rfl (Nat.le_of_ble_eq_true rfl) (by omega) (by omega) (by omega) (fun v S' K2 J' hq => ?_)
            obtain ⟨rfl, rfl, hg, rfl⟩ := hq
            refine inc_4_3 (pc := 54) (w := 1) d_Md_on_54 rfl rfl ?_
            refine r_goto (pc := 57) (tgt := 45) d_Md_on_57 (by decide) ?_
            rw [q1]
            exact ih _ (hK.go hg) (mgo_st h2 hg)
      exact key 0 (by omega) I2 ⟨h.k140 k1, fun _ _ _ _ _ _ _ => rfl, fun _ _ => rfl⟩ qOnly.rf
    · simp only [if_pos (show qwithin n 0 60 = 0 from c2)]
      refine r_bipush (pc := 32) (v := (-2)) d_Md_on_32 rfl ?_
      exact r_iret d_Md_on_34 rfl (by omega) (by omega) (⟨⟨I, fun _ _ => rfl, rfl⟩, rfl, mSame.rf, rfl⟩)
  refine ldi_n_4_2 (pc := 0) d_Md_on_0 ?_
  refine r_iconst (pc := 1) (v := 0) d_Md_on_1 rfl ?_
  refine r_iconst (pc := 2) (v := 1) d_Md_on_2 rfl ?_
  refine r_callS (pc := 3) (As := [.int x, .int 0, .int 1]) k_Md_120 sw_Md_within rfl (by decide) d_Md_on_3 (c_Md_within x 0 1) rfl (Nat.le_of_ble_eq_true rfl) (by omega) (by omega) (by omega) (fun v S' I' J' hq => ?_)
  obtain ⟨rfl, rfl, rfl, rfl⟩ := hq
  refine r_if_ne (pc := 6) (tgt := 22) d_Md_on_6 (by decide) (fun c1 => ?_) (fun c1 => ?_)
  · refine body ?_
    obtain ⟨h1, h2⟩ := qwithin_y c1
    rw [Int32.le_iff_toInt_le] at h1 h2
    have e1 : (0 : Int32).toInt = 0 := rfl
    have e2 : (1 : Int32).toInt = 1 := rfl
    rw [e1] at h1
    rw [e2] at h2
    by_cases e : x = 0
    · exact Or.inl e
    · refine Or.inr (Or.inl ?_)
      rw [← Int32.toInt_inj] at e ⊢
      rw [e1] at e
      rw [e2]
      omega
  · refine lda_n_4_0 (pc := 9) d_Md_on_9 ?_
    refine ldi_n_4_2 (pc := 10) d_Md_on_10 ?_
    refine r_bipush (pc := 11) (v := 10) d_Md_on_11 rfl ?_
    refine r_isub (pc := 13) d_Md_on_13 ?_
    refine r_callV (pc := 14) (As := [.int (x - 10)]) (k := 9) (N := 56) (T := T_Md) k_Md_127 im_Md_isOne se_Md_isOne rfl (by decide) rfl (by decide) d_Md_on_14 hT (c_Md_isOne hM) rfl (Nat.le_of_ble_eq_true rfl) (by omega) (by omega) (by omega) (fun v S' I' J' hq => ?_)
    obtain ⟨rfl, rfl, rfl, rfl⟩ := hq
    rw [hc]
    refine r_if_ne (pc := 17) (tgt := 22) d_Md_on_17 (by decide) (fun c2 => ?_) (fun c2 => ?_)
    · exact body (Or.inr (Or.inr c2))
    · have bad : ¬ (x = 0 ∨ x = 1 ∨ ¬ qwithin (x - 10) 0 (nI c - 1) = 0) := fun q => by
        have c1' : qwithin x 0 1 = 0 := c1
        rcases q with rfl | rfl | q
        · exact absurd c1' (by decide)
        · exact absurd c1' (by decide)
        · exact q c2
      simp only [if_neg bad]
      refine r_iconst (pc := 20) (v := (-1)) d_Md_on_20 rfl ?_
      exact r_iret d_Md_on_21 rfl (by omega) (by omega) (⟨⟨I, fun _ _ => rfl, rfl⟩, rfl, mSame.rf, rfl⟩)
theorem c_Md_turnX {x : Int32} {c : Nat} (hM : isMd S) (h : mDay I 9999) (hc : I 114 0 = nI c) (c6 : c ≤ 6) : qMet E y_Md_turn b_Md_turn 4 (some .int) 5 0 0 [.ref (qb E + 114), .int x] S I J (qAX S I J (fun M => ga_turn M c x)) := by
  have hT := hM.1
  have f6 := hM.r 5 rfl
  have g6 := hM.a 5 rfl
  have f41 := hM.r 25 rfl
  have g41 := hM.a 25 rfl
  unfold ga_turn
  refine qMet.of (L := [some (.ref (qb E + 114)), some (.int x), none, none]) (by decide +kernel) (Nat.le_of_ble_eq_true rfl) rfl ?_
  refine lda_n_4_0 (pc := 0) d_Md_turn_0 ?_
  refine ldi_n_4_1 (pc := 1) d_Md_turn_1 ?_
  refine r_callV (pc := 2) (As := [.int x]) (k := 9) (N := 56) (T := T_Md) k_Md_127 im_Md_isOne se_Md_isOne rfl (by decide) rfl (by decide) d_Md_turn_2 hT (c_Md_isOne hM) rfl (Nat.le_of_ble_eq_true rfl) (by omega) (by omega) (by omega) (fun v S' I' J' hq => ?_)
  obtain ⟨rfl, rfl, rfl, rfl⟩ := hq
  rw [hc]
  refine r_if_ne (pc := 5) (tgt := 10) d_Md_turn_5 (by decide) (fun c1 => ?_) (fun c1 => ?_)
  · simp only [if_neg c1]
    obtain ⟨p, hp, rfl⟩ := qisM_y (by omega) c1
    have hin : vp_in (nI p) 6 := vp_in_nI (by omega) (by omega)
    rw [qcl (n := p) (by omega)]
    refine lda_n_4_0 (pc := 10) d_Md_turn_10 ?_
    refine lda_n_4_0 (pc := 11) d_Md_turn_11 ?_
    refine g_Md_88 (pc := 12) rfl d_Md_turn_12 (by assumption) (by assumption) ?_
    refine r_callV (pc := 15) (As := [.ref (qb E + 140)]) (k := 9) (N := 56) (T := T_Md) k_Md_265 im_Md_keep se_Md_keep rfl (by decide) rfl (by decide) d_Md_turn_15 hT (c_Md_keep hM g41 n140) rfl (Nat.le_of_ble_eq_true rfl) (by omega) (by omega) (by omega) (fun v S' I2 J' hq => ?_)
    obtain ⟨rfl, rfl, ⟨k1, k2⟩, rfl⟩ := hq
    generalize hR : aTurn (fun k => if mgoN I2 k 120 p = 1 then 1 else 0) 61 0 = R
    refine r_bipush (pc := 18) (v := (-5)) d_Md_turn_18 rfl ?_
    refine sti_n_4_2 (pc := 20) d_Md_turn_20 rfl ?_
    refine r_iconst (pc := 21) (v := 0) d_Md_turn_21 rfl ?_
    refine sti_n_4_3 (pc := 22) d_Md_turn_22 rfl ?_
    rw [q0]
    have fin : ∀ K D f i, mRun I2 D K → f = R → qW E y_Md_turn b_Md_turn (some .int) 5 0 0 (qAX S I J (fun M => aTurn (fun k => if mgoN M k 120 p = 1 then 1 else 0) 61 0)) 0 0 61 [some (.ref (qb E + 114)), some (.int (nI p)), some (.int f), some (.int i)] [] S K J := by
      intro K D f i hK hf
      refine lda_n_4_0 (pc := 61) d_Md_turn_61 ?_
      refine lda_n_4_0 (pc := 62) d_Md_turn_62 ?_
      refine g_Md_88 (pc := 63) rfl d_Md_turn_63 (by assumption) (by assumption) ?_
      refine r_callV (pc := 66) (As := [.ref (qb E + 140)]) (k := 9) (N := 56) (T := T_Md) k_Md_269 im_Md_again se_Md_again rfl (by decide) rfl (by decide) d_Md_turn_66 hT (c_Md_again hM g41 n140) rfl (Nat.le_of_ble_eq_true rfl) (by omega) (by omega) (by omega) (fun v S' I4 J' hq => ?_)
      obtain ⟨rfl, rfl, ⟨b1, b2, b3⟩, rfl⟩ := hq
      refine ldi_n_4_2 (pc := 69) d_Md_turn_69 ?_
      exact r_iret d_Md_turn_70 rfl (by omega) (by omega) (⟨⟨I2, k1, by rw [hf, ← hR]⟩, rfl, mRun.back k1 k2 hK b1 b2 b3, rfl⟩)
    have key : ∀ k, k ≤ 61 → ∀ K f, mRun I2 (9999 + k) K → ((f = -5 ∧ q130 (mgoN I2 (k - 1)) K ∧ aTurn (fun k => if mgoN I2 k 120 p = 1 then 1 else 0) (61 - k) k = R) ∨ (¬ f = -5 ∧ f = R)) → qW E y_Md_turn b_Md_turn (some .int) 5 0 0 (qAX S I J (fun M => aTurn (fun k => if mgoN M k 120 p = 1 then 1 else 0) 61 0)) 0 0 23 [some (.ref (qb E + 114)), some (.int (nI p)), some (.int f), some (.int (nI k))] [] S K J := by
      refine qfor 61 ?_ ?_
      · intro K f hK hv
        have hf : f = R := by
          rcases hv with ⟨a, -, b⟩ | ⟨-, b⟩
          · rw [a, ← b]; rfl
          · exact b
        refine ldi_n_4_3 (pc := 23) d_Md_turn_23 ?_
        refine r_bipush (pc := 24) (v := 61) d_Md_turn_24 rfl ?_
        refine r_icmp_ge (pc := 26) (tgt := 61) d_Md_turn_26 (by decide) (fun cc => ?_) (fun cc => ?_)
        · exact fin K _ f _ hK hf
        · exact absurd (show nI 61 ≤ nI 61 from by decide) cc
      · intro k hk ih K f hK hv
        refine ldi_n_4_3 (pc := 23) d_Md_turn_23 ?_
        refine r_bipush (pc := 24) (v := 61) d_Md_turn_24 rfl ?_
        refine r_icmp_ge (pc := 26) (tgt := 61) d_Md_turn_26 (by decide) (fun cc => ?_) (fun cc => ?_)
        · exact absurd (show nI 61 ≤ nI k from cc) (nI_ge hk (by omega))
        · refine ldi_n_4_2 (pc := 29) d_Md_turn_29 ?_
          refine r_bipush (pc := 30) (v := (-5)) d_Md_turn_30 rfl ?_
          refine r_icmp_ne (pc := 32) (tgt := 61) d_Md_turn_32 (by decide) (fun c3 => ?_) (fun c3 => ?_)
          · exact fin K _ f _ hK ((hv.resolve_left (fun q => c3 q.1)).2)
          · have c3' : f = -5 := c3
            obtain ⟨-, h1, hj⟩ := hv.resolve_right (fun q => q.1 c3')
            rw [show 61 - k = (61 - (k + 1)) + 1 by omega, aTurn] at hj
            have nxt : ∀ K2, mRun I2 (9999 + k + 1) K2 → q130 (mgoN I2 k) K2 → qW E y_Md_turn b_Md_turn (some .int) 5 0 0 (qAX S I J (fun M => aTurn (fun k => if mgoN M k 120 p = 1 then 1 else 0) 61 0)) 0 0 43 [some (.ref (qb E + 114)), some (.int (nI p)), some (.int f), some (.int (nI k))] [] S K2 J := by
              intro K2 h2 h3
              have e : K2 120 p = mgoN I2 k 120 p := by rw [h3 120 (by decide)]
              refine lda_n_4_0 (pc := 43) d_Md_turn_43 ?_
              refine g_Md_27 (pc := 44) rfl d_Md_turn_44 (by assumption) (by assumption) ?_
              refine ldi_n_4_1 (pc := 47) d_Md_turn_47 ?_
              refine r_iald (pc := 48) d_Md_turn_48 (by assumption) (by first | assumption | exact vp_in_nI (by omega) (by omega) | (unfold vp_in; decide)) ?_
              refine r_iconst (pc := 49) (v := 1) d_Md_turn_49 rfl ?_
              rw [qcl (n := p) (by omega)]
              refine r_icmp_ne (pc := 50) (tgt := 55) d_Md_turn_50 (by decide) (fun c5 => ?_) (fun c5 => ?_)
              · rw [e] at c5
                rw [if_neg c5, if_pos rfl] at hj
                refine inc_4_3 (pc := 55) (w := 1) d_Md_turn_55 rfl rfl ?_
                refine r_goto (pc := 58) (tgt := 23) d_Md_turn_58 (by decide) ?_
                rw [q1]
                exact ih K2 _ h2 (Or.inl ⟨c3', h3, hj⟩)
              · rw [e] at c5
                rw [if_pos c5, if_neg (by decide)] at hj
                refine ldi_n_4_3 (pc := 53) d_Md_turn_53 ?_
                refine sti_n_4_2 (pc := 54) d_Md_turn_54 rfl ?_
                refine inc_4_3 (pc := 55) (w := 1) d_Md_turn_55 rfl rfl ?_
                refine r_goto (pc := 58) (tgt := 23) d_Md_turn_58 (by decide) ?_
                rw [q1]
                refine ih K2 _ h2 (Or.inr ⟨?_, hj⟩)
                have : ∀ k, k < 61 → ¬ nI k = -5 := by decide
                exact this k hk
            refine ldi_n_4_3 (pc := 35) d_Md_turn_35 ?_
            refine r_if_le (pc := 36) (tgt := 43) d_Md_turn_36 (by decide) (fun c4 => ?_) (fun c4 => ?_)
            · have k0 : k = 0 := by
                rcases Nat.eq_zero_or_pos k with q | q
                · exact q
                · exact absurd c4 (fun z => by
                    have := (nI_leI (a := k) (b := 0) (by omega) (by omega)).mp z
                    omega)
              subst k0
              exact nxt K ⟨hK.1.mo (by omega), hK.2.1, hK.2.2⟩ h1
            · have k0 : 0 < k := by
                rcases Nat.eq_zero_or_pos k with q | q
                · subst q; exact absurd (by decide) c4
                · exact q
              refine lda_n_4_0 (pc := 39) d_Md_turn_39 ?_
              refine r_callV (pc := 40) (As := []) (k := 9) (N := 56) (T := T_Md) k_Md_250 im_Md_goesDay se_Md_goesDay rfl (by decide) rfl (by decide) d_Md_turn_40 hT (c_Md_goesDay2 hM hK.1 (by omega)) rfl (Nat.le_of_ble_eq_true rfl) (by omega) (by omega) (by omega) (fun v S' K2 J' hq => ?_)
              obtain ⟨rfl, rfl, hg, rfl⟩ := hq
              have := mgo_st h1 hg
              rw [show k - 1 + 1 = k by omega] at this
              exact nxt K2 (hK.go hg) this
    exact key 0 (by omega) I2 _ ⟨h.k140 k1, fun _ _ _ _ _ _ _ => rfl, fun _ _ => rfl⟩ (Or.inl ⟨rfl, qOnly.rf, hR⟩)
  · simp only [if_pos (show qwithin x 0 (nI c - 1) = 0 from c1)]
    refine r_iconst (pc := 8) (v := (-1)) d_Md_turn_8 rfl ?_
    exact r_iret d_Md_turn_9 rfl (by omega) (by omega) (⟨⟨I, fun _ _ => rfl, rfl⟩, rfl, mSame.rf, rfl⟩)
theorem c_Md_emptyX {c : Nat} (hM : isMd S) (h : mDay I 9999) (hc : I 114 0 = nI c) (c6 : c ≤ 6) : qMet E y_Md_empty b_Md_empty 3 (some .int) 5 0 0 [.ref (qb E + 114)] S I J (qAX S I J (fun M => ga_empty M c)) := by
  have hT := hM.1
  have f41 := hM.r 25 rfl
  have g41 := hM.a 25 rfl
  unfold ga_empty
  refine qMet.of (L := [some (.ref (qb E + 114)), none, none]) (by decide +kernel) (Nat.le_of_ble_eq_true rfl) rfl ?_
  refine lda_n_3_0 (pc := 0) d_Md_empty_0 ?_
  refine lda_n_3_0 (pc := 1) d_Md_empty_1 ?_
  refine g_Md_88 (pc := 2) rfl d_Md_empty_2 (by assumption) (by assumption) ?_
  refine r_callV (pc := 5) (As := [.ref (qb E + 140)]) (k := 9) (N := 56) (T := T_Md) k_Md_265 im_Md_keep se_Md_keep rfl (by decide) rfl (by decide) d_Md_empty_5 hT (c_Md_keep hM g41 n140) rfl (Nat.le_of_ble_eq_true rfl) (by omega) (by omega) (by omega) (fun v S' I2 J' hq => ?_)
  obtain ⟨rfl, rfl, ⟨k1, k2⟩, rfl⟩ := hq
  generalize hR : aTurn (fun k => if qsumP (mgoN I2 k 120) c = nI c then 1 else 0) 61 0 = R
  refine r_bipush (pc := 8) (v := (-5)) d_Md_empty_8 rfl ?_
  refine sti_n_3_1 (pc := 10) d_Md_empty_10 rfl ?_
  refine r_iconst (pc := 11) (v := 0) d_Md_empty_11 rfl ?_
  refine sti_n_3_2 (pc := 12) d_Md_empty_12 rfl ?_
  rw [q0]
  have fin : ∀ K D f i, mRun I2 D K → f = R → qW E y_Md_empty b_Md_empty (some .int) 5 0 0 (qAX S I J (fun M => aTurn (fun k => if qsumP (mgoN M k 120) c = nI c then 1 else 0) 61 0)) 0 0 52 [some (.ref (qb E + 114)), some (.int f), some (.int i)] [] S K J := by
    intro K D f i hK hf
    refine lda_n_3_0 (pc := 52) d_Md_empty_52 ?_
    refine lda_n_3_0 (pc := 53) d_Md_empty_53 ?_
    refine g_Md_88 (pc := 54) rfl d_Md_empty_54 (by assumption) (by assumption) ?_
    refine r_callV (pc := 57) (As := [.ref (qb E + 140)]) (k := 9) (N := 56) (T := T_Md) k_Md_269 im_Md_again se_Md_again rfl (by decide) rfl (by decide) d_Md_empty_57 hT (c_Md_again hM g41 n140) rfl (Nat.le_of_ble_eq_true rfl) (by omega) (by omega) (by omega) (fun v S' I4 J' hq => ?_)
    obtain ⟨rfl, rfl, ⟨b1, b2, b3⟩, rfl⟩ := hq
    refine ldi_n_3_1 (pc := 60) d_Md_empty_60 ?_
    exact r_iret d_Md_empty_61 rfl (by omega) (by omega) (⟨⟨I2, k1, by rw [hf, ← hR]⟩, rfl, mRun.back k1 k2 hK b1 b2 b3, rfl⟩)
  have key : ∀ k, k ≤ 61 → ∀ K f, mRun I2 (9999 + k) K → ((f = -5 ∧ q130 (mgoN I2 (k - 1)) K ∧ aTurn (fun k => if qsumP (mgoN I2 k 120) c = nI c then 1 else 0) (61 - k) k = R) ∨ (¬ f = -5 ∧ f = R)) → qW E y_Md_empty b_Md_empty (some .int) 5 0 0 (qAX S I J (fun M => aTurn (fun k => if qsumP (mgoN M k 120) c = nI c then 1 else 0) 61 0)) 0 0 13 [some (.ref (qb E + 114)), some (.int f), some (.int (nI k))] [] S K J := by
    refine qfor 61 ?_ ?_
    · intro K f hK hv
      have hf : f = R := by
        rcases hv with ⟨a, -, b⟩ | ⟨-, b⟩
        · rw [a, ← b]; rfl
        · exact b
      refine ldi_n_3_2 (pc := 13) d_Md_empty_13 ?_
      refine r_bipush (pc := 14) (v := 61) d_Md_empty_14 rfl ?_
      refine r_icmp_ge (pc := 16) (tgt := 52) d_Md_empty_16 (by decide) (fun cc => ?_) (fun cc => ?_)
      · exact fin K _ f _ hK hf
      · exact absurd (show nI 61 ≤ nI 61 from by decide) cc
    · intro k hk ih K f hK hv
      refine ldi_n_3_2 (pc := 13) d_Md_empty_13 ?_
      refine r_bipush (pc := 14) (v := 61) d_Md_empty_14 rfl ?_
      refine r_icmp_ge (pc := 16) (tgt := 52) d_Md_empty_16 (by decide) (fun cc => ?_) (fun cc => ?_)
      · exact absurd (show nI 61 ≤ nI k from cc) (nI_ge hk (by omega))
      · refine ldi_n_3_1 (pc := 19) d_Md_empty_19 ?_
        refine r_bipush (pc := 20) (v := (-5)) d_Md_empty_20 rfl ?_
        refine r_icmp_ne (pc := 22) (tgt := 52) d_Md_empty_22 (by decide) (fun c3 => ?_) (fun c3 => ?_)
        · exact fin K _ f _ hK ((hv.resolve_left (fun q => c3 q.1)).2)
        · have c3' : f = -5 := c3
          obtain ⟨-, h1, hj⟩ := hv.resolve_right (fun q => q.1 c3')
          rw [show 61 - k = (61 - (k + 1)) + 1 by omega, aTurn] at hj
          have nxt : ∀ K2, mRun I2 (9999 + k + 1) K2 → q130 (mgoN I2 k) K2 → qW E y_Md_empty b_Md_empty (some .int) 5 0 0 (qAX S I J (fun M => aTurn (fun k => if qsumP (mgoN M k 120) c = nI c then 1 else 0) 61 0)) 0 0 33 [some (.ref (qb E + 114)), some (.int f), some (.int (nI k))] [] S K2 J := by
            intro K2 h2 h3
            have e0 : K2 114 0 = nI c := by rw [h2.2.2 0 (by decide), k1 114 (by decide), hc]
            refine lda_n_3_0 (pc := 33) d_Md_empty_33 ?_
            refine r_callV (pc := 34) (As := []) (k := 9) (N := 56) (T := T_Md) k_Md_256 im_Md_allDone se_Md_allDone rfl (by decide) rfl (by decide) d_Md_empty_34 hT (c_Md_allDone hM e0 c6) rfl (Nat.le_of_ble_eq_true rfl) (by omega) (by omega) (by omega) (fun v S' I' J' hq => ?_)
            obtain ⟨rfl, rfl, rfl, rfl⟩ := hq
            refine lda_n_3_0 (pc := 37) d_Md_empty_37 ?_
            refine g_Md_117 (pc := 38) rfl d_Md_empty_38 (by assumption) ?_
            rw [e0, h3 120 (by decide)]
            refine r_icmp_ne (pc := 41) (tgt := 46) d_Md_empty_41 (by decide) (fun c5 => ?_) (fun c5 => ?_)
            · rw [if_neg c5, if_pos rfl] at hj
              refine inc_3_2 (pc := 46) (w := 1) d_Md_empty_46 rfl rfl ?_
              refine r_goto (pc := 49) (tgt := 13) d_Md_empty_49 (by decide) ?_
              rw [q1]
              exact ih K2 _ h2 (Or.inl ⟨c3', h3, hj⟩)
            · rw [if_pos c5, if_neg (by decide)] at hj
              refine ldi_n_3_2 (pc := 44) d_Md_empty_44 ?_
              refine sti_n_3_1 (pc := 45) d_Md_empty_45 rfl ?_
              refine inc_3_2 (pc := 46) (w := 1) d_Md_empty_46 rfl rfl ?_
              refine r_goto (pc := 49) (tgt := 13) d_Md_empty_49 (by decide) ?_
              rw [q1]
              refine ih K2 _ h2 (Or.inr ⟨?_, hj⟩)
              have : ∀ k, k < 61 → ¬ nI k = -5 := by decide
              exact this k hk
          refine ldi_n_3_2 (pc := 25) d_Md_empty_25 ?_
          refine r_if_le (pc := 26) (tgt := 33) d_Md_empty_26 (by decide) (fun c4 => ?_) (fun c4 => ?_)
          · have k0 : k = 0 := by
              rcases Nat.eq_zero_or_pos k with q | q
              · exact q
              · exact absurd c4 (fun z => by
                  have := (nI_leI (a := k) (b := 0) (by omega) (by omega)).mp z
                  omega)
            subst k0
            exact nxt K ⟨hK.1.mo (by omega), hK.2.1, hK.2.2⟩ h1
          · have k0 : 0 < k := by
              rcases Nat.eq_zero_or_pos k with q | q
              · subst q; exact absurd (by decide) c4
              · exact q
            refine lda_n_3_0 (pc := 29) d_Md_empty_29 ?_
            refine r_callV (pc := 30) (As := []) (k := 9) (N := 56) (T := T_Md) k_Md_250 im_Md_goesDay se_Md_goesDay rfl (by decide) rfl (by decide) d_Md_empty_30 hT (c_Md_goesDay2 hM hK.1 (by omega)) rfl (Nat.le_of_ble_eq_true rfl) (by omega) (by omega) (by omega) (fun v S' K2 J' hq => ?_)
            obtain ⟨rfl, rfl, hg, rfl⟩ := hq
            have := mgo_st h1 hg
            rw [show k - 1 + 1 = k by omega] at this
            exact nxt K2 (hK.go hg) this
  exact key 0 (by omega) I2 _ ⟨h.k140 k1, fun _ _ _ _ _ _ _ => rfl, fun _ _ => rfl⟩ (Or.inl ⟨rfl, qOnly.rf, hR⟩)
theorem c_Md_endsX {x : Int32} {z c : Nat} (hM : isMd S) (h : mDay I 9999) (hc : I 114 0 = nI c) (c6 : c ≤ 6) (hz : I 114 31 = nI z) (hz10 : z ≤ 10) (hW : ∀ i, i < 10 → ∃ p, p < 6 ∧ I 135 i = nI p) : qMet E y_Md_ends b_Md_ends 4 (some .int) 5 0 0 [.ref (qb E + 114), .int x] S I J (qAX S I J (fun M => ga_ends M c z x)) := by
  have hT := hM.1
  have f3 := hM.r 2 rfl
  have g3 := hM.a 2 rfl
  have f6 := hM.r 5 rfl
  have g6 := hM.a 5 rfl
  have f32 := hM.r 19 rfl
  have g32 := hM.a 19 rfl
  have f33 := hM.r 20 rfl
  have g33 := hM.a 20 rfl
  have f41 := hM.r 25 rfl
  have g41 := hM.a 25 rfl
  unfold ga_ends
  refine qMet.of (L := [some (.ref (qb E + 114)), some (.int x), none, none]) (by decide +kernel) (Nat.le_of_ble_eq_true rfl) rfl ?_
  refine ldi_n_4_1 (pc := 0) d_Md_ends_0 ?_
  refine r_iconst (pc := 1) (v := 0) d_Md_ends_1 rfl ?_
  refine r_iconst (pc := 2) (v := 1) d_Md_ends_2 rfl ?_
  refine r_callS (pc := 3) (As := [.int x, .int 0, .int 1]) k_Md_120 sw_Md_within rfl (by decide) d_Md_ends_3 (c_Md_within x 0 1) rfl (Nat.le_of_ble_eq_true rfl) (by omega) (by omega) (by omega) (fun v S' I' J' hq => ?_)
  obtain ⟨rfl, rfl, rfl, rfl⟩ := hq
  refine r_if_ne (pc := 6) (tgt := 11) d_Md_ends_6 (by decide) (fun c1 => ?_) (fun c1 => ?_)
  · simp only [if_neg c1]
    refine lda_n_4_0 (pc := 11) d_Md_ends_11 ?_
    refine lda_n_4_0 (pc := 12) d_Md_ends_12 ?_
    refine g_Md_88 (pc := 13) rfl d_Md_ends_13 (by assumption) (by assumption) ?_
    refine r_callV (pc := 16) (As := [.ref (qb E + 140)]) (k := 9) (N := 56) (T := T_Md) k_Md_265 im_Md_keep se_Md_keep rfl (by decide) rfl (by decide) d_Md_ends_16 hT (c_Md_keep hM g41 n140) rfl (Nat.le_of_ble_eq_true rfl) (by omega) (by omega) (by omega) (fun v S' I2 J' hq => ?_)
    obtain ⟨rfl, rfl, ⟨k1, k2⟩, rfl⟩ := hq
    refine r_iconst (pc := 19) (v := 0) d_Md_ends_19 rfl ?_
    refine sti_n_4_2 (pc := 20) d_Md_ends_20 rfl ?_
    rw [q0]
    have key : ∀ k, k ≤ z → ∀ K (a3 : Option Value), mRun I2 (9999 + k) K → q130 (mplanN I2 k) K → qW E y_Md_ends b_Md_ends (some .int) 5 0 0 (qAX S I J (fun M => if x = 0 then qsumP (mplanN M z 119) c else qsumP (mplanN M z 120) c)) 0 0 21 [some (.ref (qb E + 114)), some (.int x), some (.int (nI k)), a3] [] S K J := by
      refine qfor z ?_ ?_
      · intro K a3 hK h2
        have e0 : K 114 0 = nI c := by rw [hK.2.2 0 (by decide), k1 114 (by decide), hc]
        have fin : ∀ r, r = (if x = 0 then qsumP (mplanN I2 z 119) c else qsumP (mplanN I2 z 120) c) → qW E y_Md_ends b_Md_ends (some .int) 5 0 0 (qAX S I J (fun M => if x = 0 then qsumP (mplanN M z 119) c else qsumP (mplanN M z 120) c)) 0 0 127 [some (.ref (qb E + 114)), some (.int x), some (.int (nI z)), a3] [.int r] S K J := by
          intro r hr
          refine sti_n_4_2 (pc := 127) d_Md_ends_127 rfl ?_
          refine lda_n_4_0 (pc := 128) d_Md_ends_128 ?_
          refine lda_n_4_0 (pc := 129) d_Md_ends_129 ?_
          refine g_Md_88 (pc := 130) rfl d_Md_ends_130 (by assumption) (by assumption) ?_
          refine r_callV (pc := 133) (As := [.ref (qb E + 140)]) (k := 9) (N := 56) (T := T_Md) k_Md_269 im_Md_again se_Md_again rfl (by decide) rfl (by decide) d_Md_ends_133 hT (c_Md_again hM g41 n140) rfl (Nat.le_of_ble_eq_true rfl) (by omega) (by omega) (by omega) (fun v S' I4 J' hq => ?_)
          obtain ⟨rfl, rfl, ⟨b1, b2, b3⟩, rfl⟩ := hq
          refine ldi_n_4_2 (pc := 136) d_Md_ends_136 ?_
          exact r_iret d_Md_ends_137 rfl (by omega) (by omega) (⟨⟨I2, k1, by rw [hr]⟩, rfl, mRun.back k1 k2 hK b1 b2 b3, rfl⟩)
        refine ldi_n_4_2 (pc := 21) d_Md_ends_21 ?_
        refine lda_n_4_0 (pc := 22) d_Md_ends_22 ?_
        refine g_Md_333 (pc := 23) rfl d_Md_ends_23 (by assumption) ?_
        rw [hK.2.2 31 (by decide), k1 114 (by decide), hz]
        refine r_icmp_ge (pc := 26) (tgt := 112) d_Md_ends_26 (by decide) (fun cc => ?_) (fun cc => ?_)
        · refine ldi_n_4_1 (pc := 112) d_Md_ends_112 ?_
          refine r_if_ne (pc := 113) (tgt := 123) d_Md_ends_113 (by decide) (fun c3 => ?_) (fun c3 => ?_)
          · refine lda_n_4_0 (pc := 123) d_Md_ends_123 ?_
            refine r_callV (pc := 124) (As := []) (k := 9) (N := 56) (T := T_Md) k_Md_256 im_Md_allDone se_Md_allDone rfl (by decide) rfl (by decide) d_Md_ends_124 hT (c_Md_allDone hM e0 c6) rfl (Nat.le_of_ble_eq_true rfl) (by omega) (by omega) (by omega) (fun v S' I' J' hq => ?_)
            obtain ⟨rfl, rfl, rfl, rfl⟩ := hq
            exact fin _ (by rw [if_neg c3, h2 120 (by decide)])
          · refine lda_n_4_0 (pc := 116) d_Md_ends_116 ?_
            refine r_callV (pc := 117) (As := []) (k := 9) (N := 56) (T := T_Md) k_Md_253 im_Md_allHurt se_Md_allHurt rfl (by decide) rfl (by decide) d_Md_ends_117 hT (c_Md_allHurt hM e0 c6) rfl (Nat.le_of_ble_eq_true rfl) (by omega) (by omega) (by omega) (fun v S' I' J' hq => ?_)
            obtain ⟨rfl, rfl, rfl, rfl⟩ := hq
            refine r_goto (pc := 120) (tgt := 127) d_Md_ends_120 (by decide) ?_
            exact fin _ (by rw [if_pos c3, h2 119 (by decide)])
        · exact absurd (nI_le (Nat.le_refl z) (by omega)) cc
      · intro k hk ih K a3 hK h2
        obtain ⟨p, hp, ep⟩ := hW k (by omega)
        have ek : (nI k).toNatClampNeg = k := qcl (by omega)
        have hin : vp_in (nI p) 6 := vp_in_nI hp (by omega)
        have hmo : mRun I2 (9999 + (k + 1)) K := ⟨hK.1.mo (by omega), hK.2.1, hK.2.2⟩
        have e134 : K 134 = I2 134 := hK.2.1 134 (by decide) (by decide) (by decide) (by decide) (by decide) (by decide)
        have e135 : I2 135 k = nI p := by rw [k1 135 (by decide)]; exact ep
        have nxt : ∀ K2, mRun I2 (9999 + (k + 1)) K2 → q130 (mplanN I2 (k + 1)) K2 → qW E y_Md_ends b_Md_ends (some .int) 5 0 0 (qAX S I J (fun M => if x = 0 then qsumP (mplanN M z 119) c else qsumP (mplanN M z 120) c)) 0 0 106 [some (.ref (qb E + 114)), some (.int x), some (.int (nI k)), some (.int (nI p))] [] S K2 J := by
          intro K2 h2 h3
          refine inc_4_2 (pc := 106) (w := 1) d_Md_ends_106 rfl rfl ?_
          refine r_goto (pc := 109) (tgt := 21) d_Md_ends_109 (by decide) ?_
          rw [q1]
          exact ih K2 _ h2 h3
        refine ldi_n_4_2 (pc := 21) d_Md_ends_21 ?_
        refine lda_n_4_0 (pc := 22) d_Md_ends_22 ?_
        refine g_Md_333 (pc := 23) rfl d_Md_ends_23 (by assumption) ?_
        rw [hK.2.2 31 (by decide), k1 114 (by decide), hz]
        refine r_icmp_ge (pc := 26) (tgt := 112) d_Md_ends_26 (by decide) (fun cc => ?_) (fun cc => ?_)
        · exact absurd cc (nI_ge hk (by omega))
        · refine lda_n_4_0 (pc := 29) d_Md_ends_29 ?_
          refine g_Md_73 (pc := 30) rfl d_Md_ends_30 (by assumption) (by assumption) ?_
          refine ldi_n_4_2 (pc := 33) d_Md_ends_33 ?_
          refine r_iald (pc := 34) d_Md_ends_34 (by assumption) (by first | assumption | exact vp_in_nI (by omega) (by omega) | (unfold vp_in; decide)) ?_
          rw [ek, hK.2.1 135 (by decide) (by decide) (by decide) (by decide) (by decide) (by decide), k1 135 (by decide), ep]
          refine sti_n_4_3 (pc := 35) d_Md_ends_35 rfl ?_
          refine lda_n_4_0 (pc := 36) d_Md_ends_36 ?_
          refine g_Md_70 (pc := 37) rfl d_Md_ends_37 (by assumption) (by assumption) ?_
          refine ldi_n_4_2 (pc := 40) d_Md_ends_40 ?_
          refine r_iald (pc := 41) d_Md_ends_41 (by assumption) (by first | assumption | exact vp_in_nI (by omega) (by omega) | (unfold vp_in; decide)) ?_
          rw [ek, e134]
          refine r_if_ne (pc := 42) (tgt := 52) d_Md_ends_42 (by decide) (fun c3 => ?_) (fun c3 => ?_)
          · refine lda_n_4_0 (pc := 52) d_Md_ends_52 ?_
            refine g_Md_70 (pc := 53) rfl d_Md_ends_53 (by assumption) (by assumption) ?_
            refine ldi_n_4_2 (pc := 56) d_Md_ends_56 ?_
            refine r_iald (pc := 57) d_Md_ends_57 (by assumption) (by first | assumption | exact vp_in_nI (by omega) (by omega) | (unfold vp_in; decide)) ?_
            refine r_iconst (pc := 58) (v := 3) d_Md_ends_58 rfl ?_
            rw [ek, e134]
            refine r_icmp_ne (pc := 59) (tgt := 85) d_Md_ends_59 (by decide) (fun c4 => ?_) (fun c4 => ?_)
            · refine lda_n_4_0 (pc := 85) d_Md_ends_85 ?_
              refine g_Md_27 (pc := 86) rfl d_Md_ends_86 (by assumption) (by assumption) ?_
              refine ldi_n_4_3 (pc := 89) d_Md_ends_89 ?_
              refine lda_n_4_0 (pc := 90) d_Md_ends_90 ?_
              refine g_Md_70 (pc := 91) rfl d_Md_ends_91 (by assumption) (by assumption) ?_
              refine ldi_n_4_2 (pc := 94) d_Md_ends_94 ?_
              refine r_iald (pc := 95) d_Md_ends_95 (by assumption) (by first | assumption | exact vp_in_nI (by omega) (by omega) | (unfold vp_in; decide)) ?_
              refine r_iconst (pc := 96) (v := 1) d_Md_ends_96 rfl ?_
              rw [ek, e134]
              refine r_icmp_ne (pc := 97) (tgt := 104) d_Md_ends_97 (by decide) (fun c5 => ?_) (fun c5 => ?_)
              · refine r_iconst (pc := 104) (v := 0) d_Md_ends_104 rfl ?_
                refine r_iast (pc := 105) d_Md_ends_105 (by assumption) (by first | assumption | exact vp_in_nI (by omega) (by omega) | (unfold vp_in; decide)) ?_
                refine nxt _ (hmo.up (Or.inr rfl)) ?_
                rw [mplanN]
                unfold mplan1
                rw [if_neg c3, if_neg c4, if_neg c5, e135]
                exact q130.upp h2
              · refine r_iconst (pc := 100) (v := 1) d_Md_ends_100 rfl ?_
                refine r_goto (pc := 101) (tgt := 105) d_Md_ends_101 (by decide) ?_
                refine r_iast (pc := 105) d_Md_ends_105 (by assumption) (by first | assumption | exact vp_in_nI (by omega) (by omega) | (unfold vp_in; decide)) ?_
                refine nxt _ (hmo.up (Or.inr rfl)) ?_
                rw [mplanN]
                unfold mplan1
                rw [if_neg c3, if_neg c4, if_pos c5, e135]
                exact q130.upp h2
            · refine lda_n_4_0 (pc := 62) d_Md_ends_62 ?_
              refine g_Md_18 (pc := 63) rfl d_Md_ends_63 (by assumption) (by assumption) ?_
              refine ldi_n_4_3 (pc := 66) d_Md_ends_66 ?_
              refine r_bipush (pc := 67) (v := 99) d_Md_ends_67 rfl ?_
              refine lda_n_4_0 (pc := 69) d_Md_ends_69 ?_
              refine g_Md_18 (pc := 70) rfl d_Md_ends_70 (by assumption) (by assumption) ?_
              refine ldi_n_4_3 (pc := 73) d_Md_ends_73 ?_
              refine r_iald (pc := 74) d_Md_ends_74 (by assumption) (by first | assumption | exact vp_in_nI (by omega) (by omega) | (unfold vp_in; decide)) ?_
              refine r_bipush (pc := 75) (v := 10) d_Md_ends_75 rfl ?_
              refine r_iadd (pc := 77) d_Md_ends_77 ?_
              refine r_callS (pc := 78) (As := [.int 99, .int (K 117 (nI p).toNatClampNeg + 10)]) k_Md_247 sw_jM_min rfl (by decide) d_Md_ends_78 (c_min 99 _) rfl (Nat.le_of_ble_eq_true rfl) (by omega) (by omega) (by omega) (fun v S' I' J' hq => ?_)
              obtain ⟨rfl, rfl, rfl, rfl⟩ := hq
              refine r_iast (pc := 81) d_Md_ends_81 (by assumption) (by first | assumption | exact vp_in_nI (by omega) (by omega) | (unfold vp_in; decide)) ?_
              refine r_goto (pc := 82) (tgt := 106) d_Md_ends_82 (by decide) ?_
              refine nxt _ (hmo.up (Or.inl rfl)) ?_
              rw [mplanN]
              unfold mplan1
              rw [if_neg c3, if_pos c4, e135, ← h2 117 (by decide)]
              exact q130.upp h2
          · refine lda_n_4_0 (pc := 45) d_Md_ends_45 ?_
            refine r_callV (pc := 46) (As := []) (k := 9) (N := 56) (T := T_Md) k_Md_250 im_Md_goesDay se_Md_goesDay rfl (by decide) rfl (by decide) d_Md_ends_46 hT (c_Md_goesDay2 hM hK.1 (by omega)) rfl (Nat.le_of_ble_eq_true rfl) (by omega) (by omega) (by omega) (fun v S' K2 J' hq => ?_)
            obtain ⟨rfl, rfl, hg, rfl⟩ := hq
            refine r_goto (pc := 49) (tgt := 106) d_Md_ends_49 (by decide) ?_
            refine nxt K2 (hK.go hg) ?_
            rw [mplanN]
            unfold mplan1
            rw [if_pos c3]
            exact qOnly.tr (mgo1_only h2) hg
    exact key 0 (by omega) I2 _ ⟨h.k140 k1, fun _ _ _ _ _ _ _ => rfl, fun _ _ => rfl⟩ qOnly.rf
  · simp only [if_pos (show qwithin x 0 1 = 0 from c1)]
    refine r_iconst (pc := 9) (v := (-1)) d_Md_ends_9 rfl ?_
    exact r_iret d_Md_ends_10 rfl (by omega) (by omega) (⟨⟨I, fun _ _ => rfl, rfl⟩, rfl, mSame.rf, rfl⟩)
end U6
/-! can, told exactly: the reference's side -/
section U7
variable {E : qE} {S : qSh} {I : qI} {J : qJ}
theorem c_Md_isSeenX {p z : Nat} (hM : isMd S) (h : mDay I 9999) (hp : p < 6) (hz : I 114 27 = nI z) (hz5 : z ≤ 5) (hN : ∀ i, i < 5 → ∃ t, t ≤ 20 ∧ I 133 i = nI t) : qMet E y_Md_isSeen b_Md_isSeen 3 (some .boolean) 4 0 0 [.ref (qb E + 114), .int (nI p)] S I J (fun v S' I' J' => v = some (.int (mseenN I p z z)) ∧ S = S' ∧ q130 I I' ∧ J = J') := by
  have hT := hM.1
  have f4 := hM.r 3 rfl
  have g4 := hM.a 3 rfl
  have f28 := hM.r 16 rfl
  have g28 := hM.a 16 rfl
  have f29 := hM.r 17 rfl
  have g29 := hM.a 17 rfl
  have f30 := hM.r 18 rfl
  have g30 := hM.a 18 rfl
  have hinp : vp_in (nI p) 6 := vp_in_nI hp (by omega)
  obtain ⟨-, -, -, -, d0, hd9, hd0⟩ := id h
  generalize hR : mseenN I p z z = R
  refine qMet.of (L := [some (.ref (qb E + 114)), some (.int (nI p)), none]) (by decide +kernel) (Nat.le_of_ble_eq_true rfl) rfl ?_
  refine r_iconst (pc := 0) (v := 0) d_Md_isSeen_0 rfl ?_
  refine sti_n_3_2 (pc := 1) d_Md_isSeen_1 rfl ?_
  rw [q0]
  have key : ∀ k, k ≤ z → ∀ K, q130 I K → mseenN I p z (z - k) = R → qW E y_Md_isSeen b_Md_isSeen (some .boolean) 4 0 0 (fun v S' I' J' => v = some (.int R) ∧ S = S' ∧ q130 I I' ∧ J = J') 0 0 2 [some (.ref (qb E + 114)), some (.int (nI p)), some (.int (nI k))] [] S K J := by
    refine qfor z ?_ ?_
    · intro K hK hj
      rw [Nat.sub_self] at hj
      refine ldi_n_3_2 (pc := 2) d_Md_isSeen_2 ?_
      refine lda_n_3_0 (pc := 3) d_Md_isSeen_3 ?_
      refine g_Md_314 (pc := 4) rfl d_Md_isSeen_4 (by assumption) ?_
      rw [hK 114 (by decide), hz]
      refine r_icmp_ge (pc := 7) (tgt := 71) d_Md_isSeen_7 (by decide) (fun cc => ?_) (fun cc => ?_)
      · refine r_iconst (pc := 71) (v := 1) d_Md_isSeen_71 rfl ?_
        exact r_nret d_Md_isSeen_72 rfl (qbool_n (by first | exact Or.inl rfl | exact Or.inr rfl | assumption | exact qwithin_b | exact qbit_b)) (by omega) (by omega) (⟨by rw [← hj]; rfl, rfl, hK, rfl⟩)
      · exact absurd (nI_le (Nat.le_refl z) (by omega)) cc
    · intro k hk ih K hK hj
      obtain ⟨t, ht, et⟩ := hN k (by omega)
      have ek : (nI k).toNatClampNeg = k := qcl (by omega)
      have hD : mDay K 9999 := h.eq hK
      obtain ⟨⟨n, i1, i2⟩, -⟩ := id hD
      rw [show z - k = (z - (k + 1)) + 1 by omega, mseenN, show z - (z - (k + 1) + 1) = k by omega, hd0, et, nI_add] at hj
      refine ldi_n_3_2 (pc := 2) d_Md_isSeen_2 ?_
      refine lda_n_3_0 (pc := 3) d_Md_isSeen_3 ?_
      refine g_Md_314 (pc := 4) rfl d_Md_isSeen_4 (by assumption) ?_
      rw [hK 114 (by decide), hz]
      refine r_icmp_ge (pc := 7) (tgt := 71) d_Md_isSeen_7 (by decide) (fun cc => ?_) (fun cc => ?_)
      · exact absurd cc (nI_ge hk (by omega))
      · refine lda_n_3_0 (pc := 10) d_Md_isSeen_10 ?_
        refine g_Md_61 (pc := 11) rfl d_Md_isSeen_11 (by assumption) (by assumption) ?_
        refine ldi_n_3_2 (pc := 14) d_Md_isSeen_14 ?_
        refine r_iald (pc := 15) d_Md_isSeen_15 (by assumption) (by first | assumption | exact vp_in_nI (by omega) (by omega) | (unfold vp_in; decide)) ?_
        refine ldi_n_3_1 (pc := 16) d_Md_isSeen_16 ?_
        rw [ek, hK 131 (by decide)]
        refine r_icmp_ne (pc := 17) (tgt := 65) d_Md_isSeen_17 (by decide) (fun c2 => ?_) (fun c2 => ?_)
        · rw [if_neg (fun q => (by first | exact c2 | exact fun w => c2 w : ¬ I 131 k = nI p) q.1)] at hj
          refine inc_3_2 (pc := 65) (w := 1) d_Md_isSeen_65 rfl rfl ?_
          refine r_goto (pc := 68) (tgt := 2) d_Md_isSeen_68 (by decide) ?_
          rw [q1]
          exact ih K hK hj
        · have c2' : I 131 k = nI p := c2
          refine lda_n_3_0 (pc := 20) d_Md_isSeen_20 ?_
          refine ldi_n_3_1 (pc := 21) d_Md_isSeen_21 ?_
          refine lda_n_3_0 (pc := 22) d_Md_isSeen_22 ?_
          refine g_Md_135 (pc := 23) rfl d_Md_isSeen_23 (by assumption) ?_
          refine lda_n_3_0 (pc := 26) d_Md_isSeen_26 ?_
          refine g_Md_67 (pc := 27) rfl d_Md_isSeen_27 (by assumption) (by assumption) ?_
          refine ldi_n_3_2 (pc := 30) d_Md_isSeen_30 ?_
          refine r_iald (pc := 31) d_Md_isSeen_31 (by assumption) (by first | assumption | exact vp_in_nI (by omega) (by omega) | (unfold vp_in; decide)) ?_
          refine r_iadd (pc := 32) d_Md_isSeen_32 ?_
          refine r_bipush (pc := 33) (v := 99) d_Md_isSeen_33 rfl ?_
          refine lda_n_3_0 (pc := 35) d_Md_isSeen_35 ?_
          refine g_Md_21 (pc := 36) rfl d_Md_isSeen_36 (by assumption) (by assumption) ?_
          refine ldi_n_3_1 (pc := 39) d_Md_isSeen_39 ?_
          refine r_iald (pc := 40) d_Md_isSeen_40 (by assumption) (by first | assumption | exact vp_in_nI (by omega) (by omega) | (unfold vp_in; decide)) ?_
          refine lda_n_3_0 (pc := 41) d_Md_isSeen_41 ?_
          refine g_Md_67 (pc := 42) rfl d_Md_isSeen_42 (by assumption) (by assumption) ?_
          refine ldi_n_3_2 (pc := 45) d_Md_isSeen_45 ?_
          refine r_iald (pc := 46) d_Md_isSeen_46 (by assumption) (by first | assumption | exact vp_in_nI (by omega) (by omega) | (unfold vp_in; decide)) ?_
          refine r_iadd (pc := 47) d_Md_isSeen_47 ?_
          rw [ek, hK 114 (by decide), hK 133 (by decide), hd0, et, nI_add]
          refine r_callS (pc := 48) (As := [_, _]) k_Md_247 sw_jM_min rfl (by decide) d_Md_isSeen_48 (c_min _ _) rfl (Nat.le_of_ble_eq_true rfl) (by omega) (by omega) (by omega) (fun v S' I' J' hq => ?_)
          obtain ⟨rfl, rfl, rfl, rfl⟩ := hq
          refine r_callV (pc := 51) (As := [_, _, _]) (k := 9) (N := 56) (T := T_Md) k_Md_138 im_Md_pain se_Md_pain rfl (by decide) rfl (by decide) d_Md_isSeen_51 hT (c_Md_pain (dd := d0 + t) hM i1 i2 hp rfl (by omega)) rfl (Nat.le_of_ble_eq_true rfl) (by omega) (by omega) (by omega) (fun v S' K2 J' hq => ?_)
          obtain ⟨rfl, rfl, hg, rfl⟩ := hq
          have h2 : q130 I K2 := qOnly.tr hK hg
          rw [mpain_only hK, hK 118 (by decide), qcl (n := p) (by omega)]
          refine lda_n_3_0 (pc := 54) d_Md_isSeen_54 ?_
          refine g_Md_64 (pc := 55) rfl d_Md_isSeen_55 (by assumption) (by assumption) ?_
          refine ldi_n_3_2 (pc := 58) d_Md_isSeen_58 ?_
          refine r_iald (pc := 59) d_Md_isSeen_59 (by assumption) (by first | assumption | exact vp_in_nI (by omega) (by omega) | (unfold vp_in; decide)) ?_
          rw [ek, h2 132 (by decide)]
          refine r_icmp_eq (pc := 60) (tgt := 65) d_Md_isSeen_60 (by decide) (fun c3 => ?_) (fun c3 => ?_)
          · rw [if_neg (fun q => q.2 c3)] at hj
            refine inc_3_2 (pc := 65) (w := 1) d_Md_isSeen_65 rfl rfl ?_
            refine r_goto (pc := 68) (tgt := 2) d_Md_isSeen_68 (by decide) ?_
            rw [q1]
            exact ih K2 h2 hj
          · rw [if_pos ⟨c2', c3⟩] at hj
            refine r_iconst (pc := 63) (v := 0) d_Md_isSeen_63 rfl ?_
            exact r_nret d_Md_isSeen_64 rfl (qbool_n (by first | exact Or.inl rfl | exact Or.inr rfl | assumption | exact qwithin_b | exact qbit_b)) (by omega) (by omega) (⟨by rw [← hj], rfl, h2, rfl⟩)
  exact key 0 (by omega) I qOnly.rf hR
theorem c_Md_canX {x w y : Int32} {z c : Nat} (hM : isMd S) (h : mDay I 9999) (hc : I 114 0 = nI c) (c6 : c ≤ 6) (hz : I 114 27 = nI z) (hz5 : z ≤ 5) (hN : ∀ i, i < 5 → ∃ t, t ≤ 20 ∧ I 133 i = nI t) : qMet E y_Md_can b_Md_can 8 (some .int) 5 0 0 [.ref (qb E + 114), .int x, .int w, .int y] S I J (fun v S' I' J' => v = some (.int (ga_can I c z x w y)) ∧ S = S' ∧ mSame I I' ∧ J = J') := by
  have hT := hM.1
  generalize hR : ga_can I c z x w y = R
  unfold ga_can aCan at hR
  refine qMet.of (L := [some (.ref (qb E + 114)), some (.int x), some (.int w), some (.int y), none, none, none, none]) (by decide +kernel) (Nat.le_of_ble_eq_true rfl) rfl ?_
  have bad : R = -1 → qW E y_Md_can b_Md_can (some .int) 5 0 0 (fun v S' I' J' => v = some (.int R) ∧ S = S' ∧ mSame I I' ∧ J = J') 0 0 26 [some (.ref (qb E + 114)), some (.int x), some (.int w), some (.int y), none, none, none, none] [] S I J := by
    intro hr
    refine r_iconst (pc := 26) (v := (-1)) d_Md_can_26 rfl ?_
    exact r_iret d_Md_can_27 rfl (by omega) (by omega) (⟨by rw [hr], rfl, mSame.rf, rfl⟩)
  refine lda_n_8_0 (pc := 0) d_Md_can_0 ?_
  refine ldi_n_8_1 (pc := 1) d_Md_can_1 ?_
  refine r_callV (pc := 2) (As := [.int x]) (k := 9) (N := 56) (T := T_Md) k_Md_127 im_Md_isOne se_Md_isOne rfl (by decide) rfl (by decide) d_Md_can_2 hT (c_Md_isOne hM) rfl (Nat.le_of_ble_eq_true rfl) (by omega) (by omega) (by omega) (fun v S' I' J' hq => ?_)
  obtain ⟨rfl, rfl, rfl, rfl⟩ := hq
  rw [hc]
  refine r_if_eq (pc := 5) (tgt := 26) d_Md_can_5 (by decide) (fun c1 => ?_) (fun c1 => ?_)
  · rw [if_pos c1] at hR
    exact bad hR.symm
  · rw [if_neg c1] at hR
    refine ldi_n_8_2 (pc := 8) d_Md_can_8 ?_
    refine r_iconst (pc := 9) (v := 0) d_Md_can_9 rfl ?_
    refine r_iconst (pc := 10) (v := 2) d_Md_can_10 rfl ?_
    refine r_callS (pc := 11) (As := [.int w, .int 0, .int 2]) k_Md_120 sw_Md_within rfl (by decide) d_Md_can_11 (c_Md_within w 0 2) rfl (Nat.le_of_ble_eq_true rfl) (by omega) (by omega) (by omega) (fun v S' I' J' hq => ?_)
    obtain ⟨rfl, rfl, rfl, rfl⟩ := hq
    refine r_if_eq (pc := 14) (tgt := 26) d_Md_can_14 (by decide) (fun c2 => ?_) (fun c2 => ?_)
    · rw [if_pos c2] at hR
      exact bad hR.symm
    · rw [if_neg c2] at hR
      refine ldi_n_8_3 (pc := 17) d_Md_can_17 ?_
      refine r_iconst (pc := 18) (v := 0) d_Md_can_18 rfl ?_
      refine r_iconst (pc := 19) (v := 1) d_Md_can_19 rfl ?_
      refine r_callS (pc := 20) (As := [.int y, .int 0, .int 1]) k_Md_120 sw_Md_within rfl (by decide) d_Md_can_20 (c_Md_within y 0 1) rfl (Nat.le_of_ble_eq_true rfl) (by omega) (by omega) (by omega) (fun v S' I' J' hq => ?_)
      obtain ⟨rfl, rfl, rfl, rfl⟩ := hq
      refine r_if_ne (pc := 23) (tgt := 28) d_Md_can_23 (by decide) (fun c3 => ?_) (fun c3 => ?_)
      · rw [if_neg c3] at hR
        obtain ⟨p, hp, rfl⟩ := qisM_y (by omega) c1
        rw [qcl (n := p) (by omega)] at hR
        have hp6 : p < 6 := by omega
        have ha := mca_in w
        refine lda_n_8_0 (pc := 28) d_Md_can_28 ?_
        refine ldi_n_8_1 (pc := 29) d_Md_can_29 ?_
        refine ldi_n_8_2 (pc := 30) d_Md_can_30 ?_
        refine r_callV (pc := 31) (As := [.int (nI p), .int w]) (k := 9) (N := 56) (T := T_Md) k_Md_317 im_Md_getOf se_Md_getOf rfl (by decide) rfl (by decide) d_Md_can_31 hT (c_Md_getOf hM hp6) rfl (Nat.le_of_ble_eq_true rfl) (by omega) (by omega) (by omega) (fun v S' I' J' hq => ?_)
        obtain ⟨rfl, rfl, rfl, rfl⟩ := hq
        have e66 : ∀ (K : qI) (m f : Int32), qCanR I (mca w) p K → (if y = 0 then m else f) = R → qW E y_Md_can b_Md_can (some .int) 5 0 0 (fun v S' I' J' => v = some (.int R) ∧ S = S' ∧ mSame I I' ∧ J = J') 0 0 66 [some (.ref (qb E + 114)), some (.int (nI p)), some (.int w), some (.int y), some (.int (I (mca w) p)), some (.int m), some (.int f), some (.int (-1))] [] S K J := by
          intro K m f hK hj
          refine ldi_8_7 (pc := 66) d_Md_can_66 ?_
          refine r_if_lt (pc := 68) (tgt := 103) d_Md_can_68 (by decide) (fun c4 => ?_) (fun c4 => ?_)
          · refine lda_n_8_0 (pc := 103) d_Md_can_103 ?_
            refine ldi_n_8_1 (pc := 104) d_Md_can_104 ?_
            refine ldi_n_8_2 (pc := 105) d_Md_can_105 ?_
            refine ldi_8_4 (pc := 106) d_Md_can_106 ?_
            refine r_callV (pc := 108) (As := [.int (nI p), .int w, .int (I (mca w) p)]) (k := 9) (N := 56) (T := T_Md) k_Md_320 im_Md_setOf se_Md_setOf rfl (by decide) rfl (by decide) d_Md_can_108 hT (c_Md_setOf hM hp6) rfl (Nat.le_of_ble_eq_true rfl) (by omega) (by omega) (by omega) (fun v S' K2 J' hq => ?_)
            obtain ⟨rfl, rfl, hK2, rfl⟩ := hq
            have hb : mSame I K2 := by rw [hK2]; exact mSame.q130 hK.back
            refine ldi_n_8_3 (pc := 111) d_Md_can_111 ?_
            refine r_if_ne (pc := 112) (tgt := 120) d_Md_can_112 (by decide) (fun c5 => ?_) (fun c5 => ?_)
            · rw [if_neg c5] at hj
              refine ldi_8_6 (pc := 120) d_Md_can_120 ?_
              exact r_iret d_Md_can_122 rfl (by omega) (by omega) (⟨by rw [hj], rfl, hb, rfl⟩)
            · rw [if_pos c5] at hj
              refine ldi_8_5 (pc := 115) d_Md_can_115 ?_
              refine r_goto (pc := 117) (tgt := 122) d_Md_can_117 (by decide) ?_
              exact r_iret d_Md_can_122 rfl (by omega) (by omega) (⟨by rw [hj], rfl, hb, rfl⟩)
          · exact absurd (by decide) c4
        have sn : ∀ (k : Nat) (K K2 : qI), qCanR I (mca w) p K → K2 = qup K (mca w) p (nI k) → mseenN K2 p z z = mseenN (qup I (mca w) p (nI k)) p z z := fun k K K2 hK e => by
          refine mseenN_only (fun b hb => ?_) z
          rw [e]
          by_cases q : b = mca w
          · subst q
            funext j
            by_cases q2 : j = p
            · subst q2; rw [qup_at, qup_at]
            · rw [qup_j q2, qup_j q2]; exact hK.2 j q2
          · rw [qup_row q, qup_row q]; exact hK.1 b hb q
        have lp : ∀ (k : Nat), k < 200 → ∀ (K : qI) (m f : Int32), qCanR I (mca w) p K → (if y = 0 then (aCanN (fun n => mseenN (qup I (mca w) p (nI n)) p z z) (k + 1) m f).1 else (aCanN (fun n => mseenN (qup I (mca w) p (nI n)) p z z) (k + 1) m f).2) = R → qW E y_Md_can b_Md_can (some .int) 5 0 0 (fun v S' I' J' => v = some (.int R) ∧ S = S' ∧ mSame I I' ∧ J = J') 0 0 66 [some (.ref (qb E + 114)), some (.int (nI p)), some (.int w), some (.int y), some (.int (I (mca w) p)), some (.int m), some (.int f), some (.int (nI k))] [] S K J := by
          intro k
          induction k with
          | zero =>
            intro hk K m f hK hj
            have nxt : ∀ (K : qI) (m f : Int32), qCanR I (mca w) p K → (if y = 0 then m else f) = R → qW E y_Md_can b_Md_can (some .int) 5 0 0 (fun v S' I' J' => v = some (.int R) ∧ S = S' ∧ mSame I I' ∧ J = J') 0 0 97 [some (.ref (qb E + 114)), some (.int (nI p)), some (.int w), some (.int y), some (.int (I (mca w) p)), some (.int m), some (.int f), some (.int (nI 0))] [] S K J := by
              intro K m f hK hj
              refine inc_8_7 (pc := 97) (w := (-1)) d_Md_can_97 rfl rfl ?_
              refine r_goto (pc := 100) (tgt := 66) d_Md_can_100 (by decide) ?_
              rw [show nI 0 + (-1) = -1 from by decide]
              exact e66 K m f hK hj
            rw [aCanN] at hj
            refine ldi_8_7 (pc := 66) d_Md_can_66 ?_
            refine r_if_lt (pc := 68) (tgt := 103) d_Md_can_68 (by decide) (fun c4 => ?_) (fun c4 => ?_)
            · exact absurd c4 (by decide)
            · refine lda_n_8_0 (pc := 71) d_Md_can_71 ?_
              refine ldi_n_8_1 (pc := 72) d_Md_can_72 ?_
              refine ldi_n_8_2 (pc := 73) d_Md_can_73 ?_
              refine ldi_8_7 (pc := 74) d_Md_can_74 ?_
              refine r_callV (pc := 76) (As := [.int (nI p), .int w, .int (nI 0)]) (k := 9) (N := 56) (T := T_Md) k_Md_320 im_Md_setOf se_Md_setOf rfl (by decide) rfl (by decide) d_Md_can_76 hT (c_Md_setOf hM hp6) rfl (Nat.le_of_ble_eq_true rfl) (by omega) (by omega) (by omega) (fun v S' K2 J' hq => ?_)
              obtain ⟨rfl, rfl, hK2, rfl⟩ := hq
              have h2 : qCanR I (mca w) p K2 := by rw [hK2]; exact hK.up
              have hD : mDay K2 9999 := h2.day (by omega) h
              refine lda_n_8_0 (pc := 79) d_Md_can_79 ?_
              refine ldi_n_8_1 (pc := 80) d_Md_can_80 ?_
              refine r_callV (pc := 81) (As := [.int (nI p)]) (k := 9) (N := 56) (T := T_Md) k_Md_324 im_Md_isSeen se_Md_isSeen rfl (by decide) rfl (by decide) d_Md_can_81 hT (c_Md_isSeenX (z := z) hM hD hp6 (by rw [h2.1 114 (by decide) (by omega)]; exact hz) hz5 (fun i hi => by rw [h2.1 133 (by decide) (by omega)]; exact hN i hi)) rfl (Nat.le_of_ble_eq_true rfl) (by omega) (by omega) (by omega) (fun v S' K3 J' hq => ?_)
              obtain ⟨rfl, rfl, hg, rfl⟩ := hq
              rw [sn 0 K K2 hK hK2]
              have h3 := h2.q (by omega) hg
              refine r_if_ne (pc := 84) (tgt := 90) d_Md_can_84 (by decide) (fun c5 => ?_) (fun c5 => ?_)
              · rw [if_neg c5] at hj
                refine inc_8_5 (pc := 90) (w := 1) d_Md_can_90 rfl rfl ?_
                refine ldi_8_7 (pc := 93) d_Md_can_93 ?_
                refine sti_8_6 (pc := 95) d_Md_can_95 rfl ?_
                exact nxt K3 _ _ h3 hj
              · rw [if_pos c5] at hj
                refine r_goto (pc := 87) (tgt := 97) d_Md_can_87 (by decide) ?_
                exact nxt K3 _ _ h3 hj
          | succ k ih =>
            intro hk K m f hK hj
            have nxt : ∀ (K : qI) (m f : Int32), qCanR I (mca w) p K → (if y = 0 then (aCanN (fun n => mseenN (qup I (mca w) p (nI n)) p z z) (k + 1) m f).1 else (aCanN (fun n => mseenN (qup I (mca w) p (nI n)) p z z) (k + 1) m f).2) = R → qW E y_Md_can b_Md_can (some .int) 5 0 0 (fun v S' I' J' => v = some (.int R) ∧ S = S' ∧ mSame I I' ∧ J = J') 0 0 97 [some (.ref (qb E + 114)), some (.int (nI p)), some (.int w), some (.int y), some (.int (I (mca w) p)), some (.int m), some (.int f), some (.int (nI (k + 1)))] [] S K J := by
              intro K m f hK hj
              refine inc_8_7 (pc := 97) (w := (-1)) d_Md_can_97 rfl rfl ?_
              refine r_goto (pc := 100) (tgt := 66) d_Md_can_100 (by decide) ?_
              rw [pk_m1]
              exact ih (by omega) K m f hK hj
            rw [aCanN] at hj
            refine ldi_8_7 (pc := 66) d_Md_can_66 ?_
            refine r_if_lt (pc := 68) (tgt := 103) d_Md_can_68 (by decide) (fun c4 => ?_) (fun c4 => ?_)
            · exact absurd c4 (nI_pos (by omega))
            · refine lda_n_8_0 (pc := 71) d_Md_can_71 ?_
              refine ldi_n_8_1 (pc := 72) d_Md_can_72 ?_
              refine ldi_n_8_2 (pc := 73) d_Md_can_73 ?_
              refine ldi_8_7 (pc := 74) d_Md_can_74 ?_
              refine r_callV (pc := 76) (As := [.int (nI p), .int w, .int (nI (k + 1))]) (k := 9) (N := 56) (T := T_Md) k_Md_320 im_Md_setOf se_Md_setOf rfl (by decide) rfl (by decide) d_Md_can_76 hT (c_Md_setOf hM hp6) rfl (Nat.le_of_ble_eq_true rfl) (by omega) (by omega) (by omega) (fun v S' K2 J' hq => ?_)
              obtain ⟨rfl, rfl, hK2, rfl⟩ := hq
              have h2 : qCanR I (mca w) p K2 := by rw [hK2]; exact hK.up
              have hD : mDay K2 9999 := h2.day (by omega) h
              refine lda_n_8_0 (pc := 79) d_Md_can_79 ?_
              refine ldi_n_8_1 (pc := 80) d_Md_can_80 ?_
              refine r_callV (pc := 81) (As := [.int (nI p)]) (k := 9) (N := 56) (T := T_Md) k_Md_324 im_Md_isSeen se_Md_isSeen rfl (by decide) rfl (by decide) d_Md_can_81 hT (c_Md_isSeenX (z := z) hM hD hp6 (by rw [h2.1 114 (by decide) (by omega)]; exact hz) hz5 (fun i hi => by rw [h2.1 133 (by decide) (by omega)]; exact hN i hi)) rfl (Nat.le_of_ble_eq_true rfl) (by omega) (by omega) (by omega) (fun v S' K3 J' hq => ?_)
              obtain ⟨rfl, rfl, hg, rfl⟩ := hq
              rw [sn (k + 1) K K2 hK hK2]
              have h3 := h2.q (by omega) hg
              refine r_if_ne (pc := 84) (tgt := 90) d_Md_can_84 (by decide) (fun c5 => ?_) (fun c5 => ?_)
              · rw [if_neg c5] at hj
                refine inc_8_5 (pc := 90) (w := 1) d_Md_can_90 rfl rfl ?_
                refine ldi_8_7 (pc := 93) d_Md_can_93 ?_
                refine sti_8_6 (pc := 95) d_Md_can_95 rfl ?_
                exact nxt K3 _ _ h3 hj
              · rw [if_pos c5] at hj
                refine r_goto (pc := 87) (tgt := 97) d_Md_can_87 (by decide) ?_
                exact nxt K3 _ _ h3 hj
        have h0 : qCanR I (mca w) p I := ⟨fun _ _ _ => rfl, fun _ _ => rfl⟩
        refine sti_8_4 (pc := 34) d_Md_can_34 rfl ?_
        refine r_iconst (pc := 36) (v := 0) d_Md_can_36 rfl ?_
        refine sti_8_5 (pc := 37) d_Md_can_37 rfl ?_
        refine r_bipush (pc := 39) (v := (-5)) d_Md_can_39 rfl ?_
        refine sti_8_6 (pc := 41) d_Md_can_41 rfl ?_
        refine ldi_n_8_2 (pc := 43) d_Md_can_43 ?_
        refine r_if_ne (pc := 44) (tgt := 52) d_Md_can_44 (by decide) (fun c4 => ?_) (fun c4 => ?_)
        · refine ldi_n_8_2 (pc := 52) d_Md_can_52 ?_
          refine r_iconst (pc := 53) (v := 1) d_Md_can_53 rfl ?_
          refine r_icmp_ne (pc := 54) (tgt := 62) d_Md_can_54 (by decide) (fun c5 => ?_) (fun c5 => ?_)
          · rw [show cmo w = 10 by unfold cmo; rw [if_neg c4, if_neg c5]] at hR
            refine r_bipush (pc := 62) (v := 9) d_Md_can_62 rfl ?_
            refine sti_8_7 (pc := 64) d_Md_can_64 rfl ?_
            exact lp 9 (by omega) I _ _ h0 hR
          · rw [show cmo w = 61 by unfold cmo; rw [if_neg c4, if_pos c5]] at hR
            refine r_bipush (pc := 57) (v := 60) d_Md_can_57 rfl ?_
            refine r_goto (pc := 59) (tgt := 64) d_Md_can_59 (by decide) ?_
            refine sti_8_7 (pc := 64) d_Md_can_64 rfl ?_
            exact lp 60 (by omega) I _ _ h0 hR
        · rw [show cmo w = 100 by unfold cmo; rw [if_pos c4]] at hR
          refine r_bipush (pc := 47) (v := 99) d_Md_can_47 rfl ?_
          refine r_goto (pc := 49) (tgt := 64) d_Md_can_49 (by decide) ?_
          refine sti_8_7 (pc := 64) d_Md_can_64 rfl ?_
          exact lp 99 (by omega) I _ _ h0 hR
      · rw [if_pos c3] at hR
        exact bad hR.symm
end U7
