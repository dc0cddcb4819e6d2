/-! the reference's acts, told exactly -/
def mbegin (I : qI) (x : Int32) : qI := if I 114 37 < 20 then qup (qup I 138 (I 114 37).toNatClampNeg x) 114 37 (I 114 37 + 1) else qup I 114 37 (I 114 37 + 1)
def mtrace (I : qI) (l : List Int32) : qI := l.foldl mbegin I
theorem mbegin_row {I : qI} {x : Int32} {a : Nat} (h1 : a ≠ 138) (h2 : a ≠ 114) : mbegin I x a = I a := by
  unfold mbegin; split
  · rw [qup_row h2, qup_row h1]
  · rw [qup_row h2]
theorem mbegin_f {I : qI} {x : Int32} {j : Nat} (h : j ≠ 37) : mbegin I x 114 j = I 114 j := by
  unfold mbegin; split
  · rw [qup_j h, qup_o (by decide)]
  · rw [qup_j h]
theorem mbegin_n {I : qI} {x : Int32} {t : Nat} (h : I 114 37 = nI t) : mbegin I x 114 37 = nI (t + 1) := by
  unfold mbegin; split
  · rw [qup_at, h, q1]
  · rw [qup_at, h, q1]
theorem mtrace_row {a : Nat} (h1 : a ≠ 138) (h2 : a ≠ 114) : ∀ (l : List Int32) (I : qI), mtrace I l a = I a := by
  intro l
  induction l with
  | nil => intro I; rfl
  | cons x l ih => intro I; show mtrace (mbegin I x) l a = I a; rw [ih, mbegin_row h1 h2]
theorem mtrace_f {j : Nat} (h : j ≠ 37) : ∀ (l : List Int32) (I : qI), mtrace I l 114 j = I 114 j := by
  intro l
  induction l with
  | nil => intro I; rfl
  | cons x l ih => intro I; show mtrace (mbegin I x) l 114 j = I 114 j; rw [ih, mbegin_f h]
theorem mtrace_n : ∀ (l : List Int32) (I : qI) (t : Nat), I 114 37 = nI t → mtrace I l 114 37 = nI (t + l.length) := by
  intro l
  induction l with
  | nil => intro I t h; exact h
  | cons x l ih => intro I t h; show mtrace (mbegin I x) l 114 37 = _; rw [ih _ (t + 1) (mbegin_n h), List.length_cons]; congr 1; omega
theorem mtrace_app {l l2 : List Int32} {I : qI} : mtrace I (l ++ l2) = mtrace (mtrace I l) l2 := List.foldl_append
theorem mtrace_cons {x : Int32} {l : List Int32} {I : qI} : mtrace I (x :: l) = mtrace (mbegin I x) l := rfl
def mW0 (i x : Int32) : Int32 × List Int32 := (x + i, [10])
def mW (i v : Int32) (k : Nat) (x : Int32) : Int32 × List Int32 := match k with
  | 2 => ((mW0 i (x * 3)).1, 30 :: (mW0 i (x * 3)).2)
  | 4 => (-(mW0 i x).1, 50 :: (mW0 i x).2)
  | 5 => ((mW0 i (x * 3)).1, 30 :: (mW0 i (x * 3)).2)
  | 6 => ((mW0 i x).1 ^^^ v, 71 :: (mW0 i x).2)
  | _ => mW0 i x
/-- waits, from the kind's top on; kd the one's own kind -/
def mK0 (i v : Int32) (kd : Nat) (x : Int32) : Int32 × List Int32 := ((mW i v kd x).1 - v, 11 :: (mW i v kd x).2)
def mK (i v : Int32) (kd : Nat) (k : Nat) (x : Int32) : Int32 × List Int32 := match k with
  | 1 => ((mK0 i v kd x).1 ^^^ 6, 20 :: (mK0 i v kd x).2)
  | 4 => ((mK0 i v kd (x + 1)).1 ^^^ 6, 51 :: 20 :: (mK0 i v kd (x + 1)).2)
  | 6 => ((mK0 i v kd x).1 + (mW0 i 2).1, 70 :: ((mK0 i v kd x).2 ++ (mW0 i 2).2))
  | _ => mK0 i v kd x
def mT0 (i v : Int32) (kd : Nat) (x : Int32) : Int32 × List Int32 := ((mK i v kd kd x).1 * 2, 12 :: (mK i v kd kd x).2)
def mT (i v : Int32) (kd : Nat) (k : Nat) (x : Int32) : Int32 × List Int32 := match k with
  | 3 => ((mT0 i v kd x).1 + (mK i v kd kd 1).1, 40 :: ((mT0 i v kd x).2 ++ (mK i v kd kd 1).2))
  | 5 => ((mT0 i v kd (x - i)).1, 60 :: (mT0 i v kd (x - i)).2)
  | 6 => ((mT0 i v kd x).1 + (mK i v kd kd 1).1, 40 :: ((mT0 i v kd x).2 ++ (mK i v kd kd 1).2))
  | _ => mT0 i v kd x
theorem mW_len {i v x : Int32} {k : Nat} : (mW i v k x).2.length ≤ 2 := by
  unfold mW mW0
  split <;> simp
theorem mK0_len {i v x : Int32} {kd : Nat} : (mK0 i v kd x).2.length ≤ 3 := by
  unfold mK0
  have := mW_len (i := i) (v := v) (x := x) (k := kd)
  simp; omega
theorem mK_len {i v x : Int32} {kd k : Nat} : (mK i v kd k x).2.length ≤ 6 := by
  unfold mK
  have h1 := mK0_len (i := i) (v := v) (x := x) (kd := kd)
  have h2 := mK0_len (i := i) (v := v) (x := x + 1) (kd := kd)
  split
  · simp; omega
  · simp; omega
  · simp [mW0]; omega
  · omega
theorem mT0_len {i v x : Int32} {kd : Nat} : (mT0 i v kd x).2.length ≤ 7 := by
  unfold mT0
  have := mK_len (i := i) (v := v) (x := x) (kd := kd) (k := kd)
  simp; omega
theorem hasRoom_le {s : State} {pl : Platform} {R R' : Room} (h : s.hasRoom pl R = true) (h1 : R'.frames ≤ R.frames) (h2 : R'.cells ≤ R.cells) (h3 : R'.slots ≤ R.slots) (h4 : R'.locals ≤ R.locals) : s.hasRoom pl R' = true := by
  simp only [State.hasRoom, Bool.and_eq_true, decide_eq_true_eq] at h ⊢
  obtain ⟨⟨⟨⟨a1, a2, a3, a4, a5, a6⟩, a7⟩, a8⟩, a9⟩ := h
  exact ⟨⟨⟨⟨by omega, by omega, by omega, by omega, by omega, a6⟩, by omega⟩, by omega⟩, a9⟩
theorem qMet.deep {E : qE} {y : MethodName} {cc : ByteArray} {nL : Nat} {ret : Option FieldType} {d d2 mc ms : Nat} {av : List Value} {S : qSh} {I : qI} {J : qJ} {Q : qPost} (h : qMet E y cc nL ret d mc ms av S I J Q) (hd : d ≤ d2) : qMet E y cc nL ret d2 mc ms av S I J Q := by
  intro l
  have h0 := h l
  unfold Met at h0 ⊢
  intro p e ha hc hk s m args below hf happ hP hK
  refine h0 p e ha hc hk s m args below hf ?_ hP hK
  obtain ⟨b1, b2, b3, b4, b5, b6, b7, b8⟩ := (Spec.appliesLoose_iff hf).mp happ
  refine (Spec.appliesLoose_iff hf).mpr ⟨b1, b2, b3, b4, b5, b6, hasRoom_le b7 ?_ ?_ ?_ ?_, b8⟩
  · exact hd
  · exact Nat.le_refl _
  · exact Nat.le_refl _
  · show 64 * d ≤ 64 * d2
    omega
section G12
variable {E : qE} {S : qSh} {J : qJ}
theorem c_Md_ran {I : qI} {t : Nat} {x : Int32} (hM : isMd S) (ht : I 114 37 = nI t) (hb : t < 2 ^ 31) : qMet E y_Md_ran b_Md_ran 2 none 0 0 0 [.ref (qb E + 114), .int x] S I J (fun v S' I' J' => v = none ∧ S = S' ∧ I' = mbegin I x ∧ J = J') := by
  have hT := hM.1
  have f38 := hM.r 23 rfl
  have g38 := hM.a 23 rfl
  unfold mbegin
  refine qMet.of (L := [some (.ref (qb E + 114)), some (.int x)]) (by decide +kernel) (Nat.le_of_ble_eq_true rfl) rfl ?_
  refine lda_n_2_0 (pc := 0) d_Md_ran_0 ?_
  refine g_Md_342 (pc := 1) rfl d_Md_ran_1 (by assumption) ?_
  refine r_bipush (pc := 4) (v := 20) d_Md_ran_4 rfl ?_
  refine r_icmp_ge (pc := 6) (tgt := 19) d_Md_ran_6 (by decide) (fun c => ?_) (fun c => ?_)
  · simp only [if_neg (Int32.not_lt.mpr c)]
    refine lda_n_2_0 (pc := 19) d_Md_ran_19 ?_
    refine r_dup (pc := 20) d_Md_ran_20 rfl ?_
    refine g_Md_342 (pc := 21) rfl d_Md_ran_21 (by assumption) ?_
    refine r_iconst (pc := 24) (v := 1) d_Md_ran_24 rfl ?_
    refine r_iadd (pc := 25) d_Md_ran_25 ?_
    refine p_Md_342 (pc := 26) rfl d_Md_ran_26 (by assumption) ?_
    exact r_vret d_Md_ran_29 rfl (by omega) (by omega) (⟨rfl, rfl, rfl, rfl⟩)
  · simp only [if_pos (Int32.not_le.mp c)]
    have hin : vp_in (I 114 37) 20 := by
      rw [ht]
      rw [ht] at c
      refine vp_in_nI ?_ (by omega)
      rcases Nat.lt_or_ge t 20 with q | q
      · exact q
      · exact absurd (nI_le (a := 20) (b := t) q hb) c
    refine lda_n_2_0 (pc := 9) d_Md_ran_9 ?_
    refine g_Md_82 (pc := 10) rfl d_Md_ran_10 (by assumption) (by assumption) ?_
    refine lda_n_2_0 (pc := 13) d_Md_ran_13 ?_
    refine g_Md_342 (pc := 14) rfl d_Md_ran_14 (by assumption) ?_
    refine ldi_n_2_1 (pc := 17) d_Md_ran_17 ?_
    refine r_iast (pc := 18) d_Md_ran_18 (by assumption) (by first | assumption | exact vp_in_nI (by omega) (by omega) | (unfold vp_in; decide)) ?_
    refine lda_n_2_0 (pc := 19) d_Md_ran_19 ?_
    refine r_dup (pc := 20) d_Md_ran_20 rfl ?_
    refine g_Md_342 (pc := 21) rfl d_Md_ran_21 (by assumption) ?_
    refine r_iconst (pc := 24) (v := 1) d_Md_ran_24 rfl ?_
    refine r_iadd (pc := 25) d_Md_ran_25 ?_
    refine p_Md_342 (pc := 26) rfl d_Md_ran_26 (by assumption) ?_
    rw [qup_o (by decide)]
    exact r_vret d_Md_ran_29 rfl (by omega) (by omega) (⟨rfl, rfl, rfl, rfl⟩)
theorem c_Md_above {I : qI} {k : Nat} (hk : k < 7) : qMet E y_Md_above b_Md_above 1 (some .int) 0 0 0 [.int (nI k)] S I J (qPi S I J (nI (if k = 4 then 1 else if k = 5 then 2 else if k = 6 then 3 else 0))) := by
  refine qMet.of (L := [some (.int (nI k))]) (by decide +kernel) (Nat.le_of_ble_eq_true rfl) rfl ?_
  refine ldi_n_1_0 (pc := 0) d_Md_above_0 ?_
  refine r_iconst (pc := 1) (v := 4) d_Md_above_1 rfl ?_
  by_cases k4 : k = 4
  · subst k4
    refine r_icmp_ne (pc := 2) (tgt := 9) d_Md_above_2 (by decide) (fun c => ?_) (fun c => ?_)
    · exact absurd rfl c
    · refine r_iconst (pc := 5) (v := 1) d_Md_above_5 rfl ?_
      refine r_goto (pc := 6) (tgt := 29) d_Md_above_6 (by decide) ?_
      exact r_iret d_Md_above_29 rfl (by omega) (by omega) (⟨rfl, rfl, rfl, rfl⟩)
  rw [if_neg k4]
  refine r_icmp_ne (pc := 2) (tgt := 9) d_Md_above_2 (by decide) (fun c => ?_) (fun c => ?_)
  · refine ldi_n_1_0 (pc := 9) d_Md_above_9 ?_
    refine r_iconst (pc := 10) (v := 5) d_Md_above_10 rfl ?_
    by_cases k5 : k = 5
    · subst k5
      refine r_icmp_ne (pc := 11) (tgt := 18) d_Md_above_11 (by decide) (fun c => ?_) (fun c => ?_)
      · exact absurd rfl c
      · refine r_iconst (pc := 14) (v := 2) d_Md_above_14 rfl ?_
        refine r_goto (pc := 15) (tgt := 29) d_Md_above_15 (by decide) ?_
        exact r_iret d_Md_above_29 rfl (by omega) (by omega) (⟨rfl, rfl, rfl, rfl⟩)
    rw [if_neg k5]
    refine r_icmp_ne (pc := 11) (tgt := 18) d_Md_above_11 (by decide) (fun c => ?_) (fun c => ?_)
    · refine ldi_n_1_0 (pc := 18) d_Md_above_18 ?_
      refine r_bipush (pc := 19) (v := 6) d_Md_above_19 rfl ?_
      by_cases k6 : k = 6
      · subst k6
        refine r_icmp_ne (pc := 21) (tgt := 28) d_Md_above_21 (by decide) (fun c => ?_) (fun c => ?_)
        · exact absurd rfl c
        · refine r_iconst (pc := 24) (v := 3) d_Md_above_24 rfl ?_
          refine r_goto (pc := 25) (tgt := 29) d_Md_above_25 (by decide) ?_
          exact r_iret d_Md_above_29 rfl (by omega) (by omega) (⟨rfl, rfl, rfl, rfl⟩)
      rw [if_neg k6]
      refine r_icmp_ne (pc := 21) (tgt := 28) d_Md_above_21 (by decide) (fun c => ?_) (fun c => ?_)
      · refine r_iconst (pc := 28) (v := 0) d_Md_above_28 rfl ?_
        exact r_iret d_Md_above_29 rfl (by omega) (by omega) (⟨rfl, rfl, rfl, rfl⟩)
      · exact absurd ((nI_eq (by omega) (by omega)).mp (show nI k = nI 6 from c)) k6
    · exact absurd ((nI_eq (by omega) (by omega)).mp (show nI k = nI 5 from c)) k5
  · exact absurd ((nI_eq (by omega) (by omega)).mp (show nI k = nI 4 from c)) k4
def qTr (S : qSh) (I : qI) (J : qJ) (r : Int32 × List Int32) : qPost := fun v S' I' J' => v = some (.int r.1) ∧ S = S' ∧ I' = mtrace I r.2 ∧ J = J'
theorem c_Md_weeps0 {I : qI} {t p : Nat} {x : Int32} (hM : isMd S) (ht : I 114 37 = nI t) (hb : t + 40 < 2 ^ 31) : qMet E y_Md_weeps b_Md_weeps 4 (some .int) 1 0 0 [.ref (qb E + 114), .int (nI p), .int (nI 0), .int x] S I J (qTr S I J (mW0 (nI p) x)) := by
  have hT := hM.1
  refine qMet.of (L := [some (.ref (qb E + 114)), some (.int (nI p)), some (.int (nI 0)), some (.int x)]) (by decide +kernel) (Nat.le_of_ble_eq_true rfl) rfl ?_
  refine ldi_n_4_2 (pc := 0) d_Md_weeps_0 ?_
  refine r_tableIn (pc := 1) (off := 95) (tgt := 96) d_Md_weeps_1 (by decide) (by decide) (by decide +kernel) (by decide) ?_
  refine lda_n_4_0 (pc := 96) d_Md_weeps_96 ?_
  refine r_bipush (pc := 97) (v := 10) d_Md_weeps_97 rfl ?_
  refine r_callV (pc := 99) (As := [.int 10]) (k := 9) (N := 56) (T := T_Md) k_Md_345 im_Md_ran se_Md_ran rfl (by decide) rfl (by decide) d_Md_weeps_99 hT (c_Md_ran hM ht (by omega)) rfl (Nat.le_of_ble_eq_true rfl) (by omega) (by omega) (by omega) (fun v S' I' J' hq => ?_)
  obtain ⟨rfl, rfl, rfl, rfl⟩ := hq
  refine ldi_n_4_3 (pc := 102) d_Md_weeps_102 ?_
  refine ldi_n_4_1 (pc := 103) d_Md_weeps_103 ?_
  refine r_iadd (pc := 104) d_Md_weeps_104 ?_
  exact r_iret d_Md_weeps_105 rfl (by omega) (by omega) (⟨rfl, rfl, rfl, rfl⟩)
theorem c_Md_weeps2 {I : qI} {t p : Nat} {x : Int32} (hM : isMd S) (ht : I 114 37 = nI t) (hb : t + 50 < 2 ^ 31) : qMet E y_Md_weeps b_Md_weeps 4 (some .int) 2 0 0 [.ref (qb E + 114), .int (nI p), .int (nI 2), .int x] S I J (qTr S I J ((mW0 (nI p) (x * 3)).1, 30 :: (mW0 (nI p) (x * 3)).2)) := by
  have hT := hM.1
  refine qMet.of (L := [some (.ref (qb E + 114)), some (.int (nI p)), some (.int (nI 2)), some (.int x)]) (by decide +kernel) (Nat.le_of_ble_eq_true rfl) rfl ?_
  refine ldi_n_4_2 (pc := 0) d_Md_weeps_0 ?_
  refine r_tableIn (pc := 1) (off := 43) (tgt := 44) d_Md_weeps_1 (by decide) (by decide) (by decide +kernel) (by decide) ?_
  refine lda_n_4_0 (pc := 44) d_Md_weeps_44 ?_
  refine r_bipush (pc := 45) (v := 30) d_Md_weeps_45 rfl ?_
  refine r_callV (pc := 47) (As := [.int 30]) (k := 9) (N := 56) (T := T_Md) k_Md_345 im_Md_ran se_Md_ran rfl (by decide) rfl (by decide) d_Md_weeps_47 hT (c_Md_ran hM ht (by omega)) rfl (Nat.le_of_ble_eq_true rfl) (by omega) (by omega) (by omega) (fun v S' I' J' hq => ?_)
  obtain ⟨rfl, rfl, rfl, rfl⟩ := hq
  refine lda_n_4_0 (pc := 50) d_Md_weeps_50 ?_
  refine ldi_n_4_1 (pc := 51) d_Md_weeps_51 ?_
  refine r_iconst (pc := 52) (v := 0) d_Md_weeps_52 rfl ?_
  refine ldi_n_4_3 (pc := 53) d_Md_weeps_53 ?_
  refine r_iconst (pc := 54) (v := 3) d_Md_weeps_54 rfl ?_
  refine r_imul (pc := 55) d_Md_weeps_55 ?_
  rw [q0]
  refine r_callV (pc := 56) (As := [.int (nI p), .int (nI 0), .int (x * 3)]) (k := 9) (N := 56) (T := T_Md) k_Md_349 im_Md_weeps se_Md_weeps rfl (by decide) rfl (by decide) d_Md_weeps_56 hT (c_Md_weeps0 hM (mbegin_n ht) (by omega)) rfl (Nat.le_of_ble_eq_true rfl) (by omega) (by omega) (by omega) (fun v S' I' J' hq => ?_)
  obtain ⟨rfl, rfl, rfl, rfl⟩ := hq
  exact r_iret d_Md_weeps_59 rfl (by omega) (by omega) (⟨rfl, rfl, rfl, rfl⟩)
theorem c_Md_weeps13 {I : qI} {t p k : Nat} {x : Int32} (hM : isMd S) (ht : I 114 37 = nI t) (hb : t + 50 < 2 ^ 31) (hk : k = 1 ∨ k = 3) : qMet E y_Md_weeps b_Md_weeps 4 (some .int) 2 0 0 [.ref (qb E + 114), .int (nI p), .int (nI k), .int x] S I J (qTr S I J (mW0 (nI p) x)) := by
  have hT := hM.1
  refine qMet.of (L := [some (.ref (qb E + 114)), some (.int (nI p)), some (.int (nI k)), some (.int x)]) (by decide +kernel) (Nat.le_of_ble_eq_true rfl) rfl ?_
  have rest : qW E y_Md_weeps b_Md_weeps (some .int) 2 0 0 (qTr S I J (mW0 (nI p) x)) 0 0 106 [some (.ref (qb E + 114)), some (.int (nI p)), some (.int (nI k)), some (.int x)] [] S I J := by
    refine lda_n_4_0 (pc := 106) d_Md_weeps_106 ?_
    refine ldi_n_4_1 (pc := 107) d_Md_weeps_107 ?_
    refine ldi_n_4_2 (pc := 108) d_Md_weeps_108 ?_
    refine r_callS (pc := 109) (As := [.int (nI k)]) k_Md_352 sw_Md_above rfl (by decide) d_Md_weeps_109 (c_Md_above (by omega)) rfl (Nat.le_of_ble_eq_true rfl) (by omega) (by omega) (by omega) (fun v S' I' J' hq => ?_)
    obtain ⟨rfl, rfl, rfl, rfl⟩ := hq
    rw [if_neg (by omega), if_neg (by omega), if_neg (by omega)]
    refine ldi_n_4_3 (pc := 112) d_Md_weeps_112 ?_
    refine r_callV (pc := 113) (As := [.int (nI p), .int (nI 0), .int x]) (k := 9) (N := 56) (T := T_Md) k_Md_349 im_Md_weeps se_Md_weeps rfl (by decide) rfl (by decide) d_Md_weeps_113 hT (c_Md_weeps0 hM ht (by omega)) rfl (Nat.le_of_ble_eq_true rfl) (by omega) (by omega) (by omega) (fun v S' I' J' hq => ?_)
    obtain ⟨rfl, rfl, rfl, rfl⟩ := hq
    exact r_iret d_Md_weeps_116 rfl (by omega) (by omega) (⟨rfl, rfl, rfl, rfl⟩)
  refine ldi_n_4_2 (pc := 0) d_Md_weeps_0 ?_
  rcases hk with rfl | rfl
  · refine r_tableIn (pc := 1) (off := 105) (tgt := 106) d_Md_weeps_1 (by decide) (by decide) (by decide +kernel) (by decide) ?_
    exact rest
  · refine r_tableIn (pc := 1) (off := 105) (tgt := 106) d_Md_weeps_1 (by decide) (by decide) (by decide +kernel) (by decide) ?_
    exact rest
/-- weeps, whatever the kind -/
theorem c_Md_weeps {I : qI} {t p k : Nat} {x v : Int32} (hM : isMd S) (ht : I 114 37 = nI t) (hb : t + 60 < 2 ^ 31) (hk : k < 7) (hp : p < 6) (hv : I 116 p = v) : qMet E y_Md_weeps b_Md_weeps 4 (some .int) 3 0 0 [.ref (qb E + 114), .int (nI p), .int (nI k), .int x] S I J (qTr S I J (mW (nI p) v k x)) := by
  have hT := hM.1
  have f2 := hM.r 1 rfl
  have g2 := hM.a 1 rfl
  have ep : (nI p).toNatClampNeg = p := qcl (by omega)
  have hin : vp_in (nI p) 6 := vp_in_nI hp (by omega)
  have hk7 : k = 0 ∨ k = 1 ∨ k = 2 ∨ k = 3 ∨ k = 4 ∨ k = 5 ∨ k = 6 := by omega
  rcases hk7 with rfl | rfl | rfl | rfl | rfl | rfl | rfl
  · exact (c_Md_weeps0 hM ht (by omega)).deep (by omega)
  · exact (c_Md_weeps13 hM ht (by omega) (Or.inl rfl)).deep (by omega)
  · exact (c_Md_weeps2 hM ht (by omega)).deep (by omega)
  · exact (c_Md_weeps13 hM ht (by omega) (Or.inr rfl)).deep (by omega)
  · refine qMet.of (L := [some (.ref (qb E + 114)), some (.int (nI p)), some (.int (nI 4)), some (.int x)]) (by decide +kernel) (Nat.le_of_ble_eq_true rfl) rfl ?_
    refine ldi_n_4_2 (pc := 0) d_Md_weeps_0 ?_
    refine r_tableIn (pc := 1) (off := 59) (tgt := 60) d_Md_weeps_1 (by decide) (by decide) (by decide +kernel) (by decide) ?_
    refine lda_n_4_0 (pc := 60) d_Md_weeps_60 ?_
    refine r_bipush (pc := 61) (v := 50) d_Md_weeps_61 rfl ?_
    refine r_callV (pc := 63) (As := [.int 50]) (k := 9) (N := 56) (T := T_Md) k_Md_345 im_Md_ran se_Md_ran rfl (by decide) rfl (by decide) d_Md_weeps_63 hT (c_Md_ran hM ht (by omega)) rfl (Nat.le_of_ble_eq_true rfl) (by omega) (by omega) (by omega) (fun v S' I' J' hq => ?_)
    obtain ⟨rfl, rfl, rfl, rfl⟩ := hq
    refine lda_n_4_0 (pc := 66) d_Md_weeps_66 ?_
    refine ldi_n_4_1 (pc := 67) d_Md_weeps_67 ?_
    refine r_iconst (pc := 68) (v := 1) d_Md_weeps_68 rfl ?_
    refine ldi_n_4_3 (pc := 69) d_Md_weeps_69 ?_
    refine r_callV (pc := 70) (As := [.int (nI p), .int (nI 1), .int x]) (k := 9) (N := 56) (T := T_Md) k_Md_349 im_Md_weeps se_Md_weeps rfl (by decide) rfl (by decide) d_Md_weeps_70 hT (c_Md_weeps13 hM (mbegin_n ht) (by omega) (Or.inl rfl)) rfl (Nat.le_of_ble_eq_true rfl) (by omega) (by omega) (by omega) (fun v S' I' J' hq => ?_)
    obtain ⟨rfl, rfl, rfl, rfl⟩ := hq
    refine r_ineg (pc := 73) d_Md_weeps_73 ?_
    exact r_iret d_Md_weeps_74 rfl (by omega) (by omega) (⟨rfl, rfl, rfl, rfl⟩)
  · refine qMet.of (L := [some (.ref (qb E + 114)), some (.int (nI p)), some (.int (nI 5)), some (.int x)]) (by decide +kernel) (Nat.le_of_ble_eq_true rfl) rfl ?_
    refine ldi_n_4_2 (pc := 0) d_Md_weeps_0 ?_
    refine r_tableIn (pc := 1) (off := 105) (tgt := 106) d_Md_weeps_1 (by decide) (by decide) (by decide +kernel) (by decide) ?_
    refine lda_n_4_0 (pc := 106) d_Md_weeps_106 ?_
    refine ldi_n_4_1 (pc := 107) d_Md_weeps_107 ?_
    refine ldi_n_4_2 (pc := 108) d_Md_weeps_108 ?_
    refine r_callS (pc := 109) (As := [.int (nI 5)]) k_Md_352 sw_Md_above rfl (by decide) d_Md_weeps_109 (c_Md_above (by omega)) rfl (Nat.le_of_ble_eq_true rfl) (by omega) (by omega) (by omega) (fun v S' I' J' hq => ?_)
    obtain ⟨rfl, rfl, rfl, rfl⟩ := hq
    refine ldi_n_4_3 (pc := 112) d_Md_weeps_112 ?_
    refine r_callV (pc := 113) (As := [.int (nI p), .int (nI 2), .int x]) (k := 9) (N := 56) (T := T_Md) k_Md_349 im_Md_weeps se_Md_weeps rfl (by decide) rfl (by decide) d_Md_weeps_113 hT (c_Md_weeps2 hM ht (by omega)) rfl (Nat.le_of_ble_eq_true rfl) (by omega) (by omega) (by omega) (fun v S' I' J' hq => ?_)
    obtain ⟨rfl, rfl, rfl, rfl⟩ := hq
    exact r_iret d_Md_weeps_116 rfl (by omega) (by omega) (⟨rfl, rfl, rfl, rfl⟩)
  · refine qMet.of (L := [some (.ref (qb E + 114)), some (.int (nI p)), some (.int (nI 6)), some (.int x)]) (by decide +kernel) (Nat.le_of_ble_eq_true rfl) rfl ?_
    refine ldi_n_4_2 (pc := 0) d_Md_weeps_0 ?_
    refine r_tableIn (pc := 1) (off := 74) (tgt := 75) d_Md_weeps_1 (by decide) (by decide) (by decide +kernel) (by decide) ?_
    refine lda_n_4_0 (pc := 75) d_Md_weeps_75 ?_
    refine r_bipush (pc := 76) (v := 71) d_Md_weeps_76 rfl ?_
    refine r_callV (pc := 78) (As := [.int 71]) (k := 9) (N := 56) (T := T_Md) k_Md_345 im_Md_ran se_Md_ran rfl (by decide) rfl (by decide) d_Md_weeps_78 hT (c_Md_ran hM ht (by omega)) rfl (Nat.le_of_ble_eq_true rfl) (by omega) (by omega) (by omega) (fun v S' I' J' hq => ?_)
    obtain ⟨rfl, rfl, rfl, rfl⟩ := hq
    refine lda_n_4_0 (pc := 81) d_Md_weeps_81 ?_
    refine ldi_n_4_1 (pc := 82) d_Md_weeps_82 ?_
    refine r_iconst (pc := 83) (v := 3) d_Md_weeps_83 rfl ?_
    refine ldi_n_4_3 (pc := 84) d_Md_weeps_84 ?_
    refine r_callV (pc := 85) (As := [.int (nI p), .int (nI 3), .int x]) (k := 9) (N := 56) (T := T_Md) k_Md_349 im_Md_weeps se_Md_weeps rfl (by decide) rfl (by decide) d_Md_weeps_85 hT (c_Md_weeps13 hM (mbegin_n ht) (by omega) (Or.inr rfl)) rfl (Nat.le_of_ble_eq_true rfl) (by omega) (by omega) (by omega) (fun v S' I' J' hq => ?_)
    obtain ⟨rfl, rfl, rfl, rfl⟩ := hq
    refine lda_n_4_0 (pc := 88) d_Md_weeps_88 ?_
    refine g_Md_15 (pc := 89) rfl d_Md_weeps_89 (by assumption) (by assumption) ?_
    refine ldi_n_4_1 (pc := 92) d_Md_weeps_92 ?_
    refine r_iald (pc := 93) d_Md_weeps_93 (by assumption) (by first | assumption | exact vp_in_nI (by omega) (by omega) | (unfold vp_in; decide)) ?_
    rw [ep, mtrace_row (by decide) (by decide), mbegin_row (by decide) (by decide), hv]
    refine r_ixor (pc := 94) d_Md_weeps_94 ?_
    exact r_iret d_Md_weeps_95 rfl (by omega) (by omega) (⟨rfl, rfl, rfl, rfl⟩)
end G12
