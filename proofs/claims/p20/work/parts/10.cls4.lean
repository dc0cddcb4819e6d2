/-! acts: the bodies by KIND, and the trace -/
def qbodyOfN (a : Int32) : Nat → Int32 → Int32
  | 0, _ => 0
  | n + 1, k => if 0 ≤ 3 * k + a ∧ 3 * k + a < 21 ∧ ¬ qbodies.getD (3 * k + a).toNatClampNeg 0 = 0 then qbodies.getD (3 * k + a).toNatClampNeg 0 else qbodyOfN a n (qkabove k)
def qbodyOf (k a : Int32) : Int32 := qbodyOfN a 7 k
/-- a body's number comes to the trace -/
def qbegin (I : qI) (x : Int32) : qI := if I 99 1 < 20 then qup (qup I 100 (I 99 1).toNatClampNeg x) 99 1 (I 99 1 + 1) else qup I 99 1 (I 99 1 + 1)
def qtrace (I : qI) (l : List Int32) : qI := l.foldl qbegin I
/-- the body of a KIND or of the next above that has one: what it tells, and the numbers of those that ran -/
def qbody (i v kd : Int32) : Nat → Int32 → Int32 → Int32 → Int32 × List Int32
  | 0, _, _, _ => (0, [])
  | n + 1, k, a, x =>
    if qbodyOf k a = 10 then (x + i, [10])
    else if qbodyOf k a = 11 then ((qbody i v kd n kd 0 x).1 - v, 11 :: (qbody i v kd n kd 0 x).2)
    else if qbodyOf k a = 12 then ((qbody i v kd n kd 1 x).1 * 2, 12 :: (qbody i v kd n kd 1 x).2)
    else if qbodyOf k a = 20 then ((qbody i v kd n 0 1 x).1 ^^^ 6, 20 :: (qbody i v kd n 0 1 x).2)
    else if qbodyOf k a = 30 then ((qbody i v kd n 0 0 (x * 3)).1, 30 :: (qbody i v kd n 0 0 (x * 3)).2)
    else if qbodyOf k a = 40 then ((qbody i v kd n 0 2 x).1 + (qbody i v kd n kd 1 1).1, 40 :: ((qbody i v kd n 0 2 x).2 ++ (qbody i v kd n kd 1 1).2))
    else if qbodyOf k a = 50 then (-(qbody i v kd n 1 0 x).1, 50 :: (qbody i v kd n 1 0 x).2)
    else if qbodyOf k a = 51 then ((qbody i v kd n 1 1 (x + 1)).1, 51 :: (qbody i v kd n 1 1 (x + 1)).2)
    else if qbodyOf k a = 60 then ((qbody i v kd n 2 2 (x - i)).1, 60 :: (qbody i v kd n 2 2 (x - i)).2)
    else if qbodyOf k a = 70 then ((qbody i v kd n 3 1 x).1 + (qbody i v kd n 3 0 2).1, 70 :: ((qbody i v kd n 3 1 x).2 ++ (qbody i v kd n 3 0 2).2))
    else if qbodyOf k a = 71 then ((qbody i v kd n 3 0 x).1 ^^^ v, 71 :: (qbody i v kd n 3 0 x).2)
    else (0, [qbodyOf k a])
theorem qbody_len (i v kd : Int32) : ∀ (n : Nat) (k a x : Int32), (qbody i v kd n k a x).2.length < 2 ^ n := by
  intro n
  induction n with
  | zero => intro k a x; simp [qbody]
  | succ n ih =>
    intro k a x
    have hp : 0 < 2 ^ n := Nat.two_pow_pos n
    unfold qbody
    have hps : 2 ^ (n + 1) = 2 ^ n + 2 ^ n := by omega
    generalize qbodyOf k a = bd
    by_cases b10 : bd = 10
    · rw [if_pos b10]
      simp only [List.length_cons, List.length_nil, List.length_append]
      omega
    rw [if_neg b10]
    by_cases b11 : bd = 11
    · rw [if_pos b11]
      simp only [List.length_cons, List.length_nil, List.length_append]
      have := ih kd 0 x; omega
    rw [if_neg b11]
    by_cases b12 : bd = 12
    · rw [if_pos b12]
      simp only [List.length_cons, List.length_nil, List.length_append]
      have := ih kd 1 x; omega
    rw [if_neg b12]
    by_cases b20 : bd = 20
    · rw [if_pos b20]
      simp only [List.length_cons, List.length_nil, List.length_append]
      have := ih 0 1 x; omega
    rw [if_neg b20]
    by_cases b30 : bd = 30
    · rw [if_pos b30]
      simp only [List.length_cons, List.length_nil, List.length_append]
      have := ih 0 0 (x * 3); omega
    rw [if_neg b30]
    by_cases b40 : bd = 40
    · rw [if_pos b40]
      simp only [List.length_cons, List.length_nil, List.length_append]
      have := ih 0 2 x; have := ih kd 1 1; omega
    rw [if_neg b40]
    by_cases b50 : bd = 50
    · rw [if_pos b50]
      simp only [List.length_cons, List.length_nil, List.length_append]
      have := ih 1 0 x; omega
    rw [if_neg b50]
    by_cases b51 : bd = 51
    · rw [if_pos b51]
      simp only [List.length_cons, List.length_nil, List.length_append]
      have := ih 1 1 (x + 1); omega
    rw [if_neg b51]
    by_cases b60 : bd = 60
    · rw [if_pos b60]
      simp only [List.length_cons, List.length_nil, List.length_append]
      have := ih 2 2 (x - i); omega
    rw [if_neg b60]
    by_cases b70 : bd = 70
    · rw [if_pos b70]
      simp only [List.length_cons, List.length_nil, List.length_append]
      have := ih 3 1 x; have := ih 3 0 2; omega
    rw [if_neg b70]
    by_cases b71 : bd = 71
    · rw [if_pos b71]
      simp only [List.length_cons, List.length_nil, List.length_append]
      have := ih 3 0 x; omega
    rw [if_neg b71]
    simp only [List.length_cons, List.length_nil]
    omega
theorem qbegin_o {I : qI} {x : Int32} {a : Nat} (h1 : a ≠ 99) (h2 : a ≠ 100) : qbegin I x a = I a := by
  unfold qbegin; split
  · rw [qup_row h1, qup_row h2]
  · rw [qup_row h1]
theorem qtrace_o {a : Nat} (h1 : a ≠ 99) (h2 : a ≠ 100) : ∀ (l : List Int32) (I : qI), qtrace I l a = I a := by
  intro l
  induction l with
  | nil => intro I; rfl
  | cons x l ih => intro I; exact (ih (qbegin I x)).trans (qbegin_o h1 h2)
theorem qbegin_r {I : qI} {x : Int32} : qbegin I x 99 1 = I 99 1 + 1 := by unfold qbegin; split <;> rw [qup_at]
theorem qtrace_r : ∀ (l : List Int32) (I : qI) (k : Nat), I 99 1 = nI k → qtrace I l 99 1 = nI (k + l.length) := by
  intro l
  induction l with
  | nil => intro I k h; exact h
  | cons x l ih =>
    intro I k h
    have := ih (qbegin I x) (k + 1) (by rw [qbegin_r, h, q1])
    rw [List.length_cons, show k + (l.length + 1) = k + 1 + l.length by omega]
    exact this
section QC4
variable {E : qE} {S : qSh} {I : qI} {J : qJ}
theorem c_Ac_init {o : Nat} (hT : qT S o 0) (hz : qZ S I J) : qMet E y_Ac_init b_Ac_init 1 none 1 1 20 [.ref (qb E + o)] S I J (fun v S' I' J' => v = none ∧ S' = qal S o 0 11 20 ∧ I = I' ∧ J = J') := by
  refine qMet.of (L := [some (.ref (qb E + o))]) (by decide +kernel) (Nat.le_of_ble_eq_true rfl) rfl ?_
  refine lda_n_1_0 (pc := 0) d_Ac_init_0 ?_
  refine r_objInit (pc := 1) ml_Ac_3 im_objInit cw_objInit d_Ac_init_1 (by omega) (Nat.le_of_ble_eq_true rfl) ?_
  refine lda_n_1_0 (pc := 4) d_Ac_init_4 ?_
  refine r_bipush (pc := 5) (v := 20) d_Ac_init_5 rfl ?_
  refine r_newaG (pc := 7) (k := 11) (n' := 20) (by decide) (by decide) rfl d_Ac_init_7 ac_int (by decide) rfl (by decide) (by omega) (by omega) ?_
  rw [hz.i, hz.j]
  have hT := hT.push (k2 := 11) (n := 20)
  refine p_Ac_9 (pc := 9) rfl rfl d_Ac_init_9 (by assumption) ?_
  exact r_vret d_Ac_init_12 rfl (by omega) (by omega) (⟨rfl, rfl, rfl, rfl⟩)
theorem c_Ac_begins {k : Nat} {x : Int32} (hM : isAc S) (hk : I 99 1 = nI k) (hb : k < 2 ^ 31) : qMet E y_Ac_begins b_Ac_begins 2 none 0 0 0 [.ref (qb E + 99), .int x] S I J (fun v S' I' J' => v = none ∧ S = S' ∧ I' = qbegin I x ∧ J = J') := by
  obtain ⟨hT, hA, hR⟩ := hM
  refine qMet.of (L := [some (.ref (qb E + 99)), some (.int x)]) (by decide +kernel) (Nat.le_of_ble_eq_true rfl) rfl ?_
  refine lda_n_2_0 (pc := 0) d_Ac_begins_0 ?_
  refine g_Ac_49 (pc := 1) rfl d_Ac_begins_1 (by assumption) ?_
  refine r_bipush (pc := 4) (v := 20) d_Ac_begins_4 rfl ?_
  unfold qbegin
  refine r_icmp_ge (pc := 6) (tgt := 19) d_Ac_begins_6 (by decide) (fun c => ?_) (fun c => ?_)
  · rw [if_neg (show ¬ I 99 1 < 20 from Int32.not_lt.mpr c)]
    refine lda_n_2_0 (pc := 19) d_Ac_begins_19 ?_
    refine r_dup (pc := 20) d_Ac_begins_20 rfl ?_
    refine g_Ac_49 (pc := 21) rfl d_Ac_begins_21 (by assumption) ?_
    refine r_iconst (pc := 24) (v := 1) d_Ac_begins_24 rfl ?_
    refine r_iadd (pc := 25) d_Ac_begins_25 ?_
    refine p_Ac_49 (pc := 26) rfl d_Ac_begins_26 (by assumption) ?_
    exact r_vret d_Ac_begins_29 rfl (by omega) (by omega) (⟨rfl, rfl, rfl, rfl⟩)
  · have c2 : I 99 1 < 20 := Int32.not_le.mp c
    rw [if_pos c2]
    have hin : vp_in (I 99 1) 20 := qin_of (by decide) (by rw [hk]; exact nI_pos hb) c2
    refine lda_n_2_0 (pc := 9) d_Ac_begins_9 ?_
    refine g_Ac_9 (pc := 10) rfl d_Ac_begins_10 (by assumption) (by assumption) ?_
    refine lda_n_2_0 (pc := 13) d_Ac_begins_13 ?_
    refine g_Ac_49 (pc := 14) rfl d_Ac_begins_14 (by assumption) ?_
    refine ldi_n_2_1 (pc := 17) d_Ac_begins_17 ?_
    refine r_iast (pc := 18) d_Ac_begins_18 (by assumption) (hin) ?_
    refine lda_n_2_0 (pc := 19) d_Ac_begins_19 ?_
    refine r_dup (pc := 20) d_Ac_begins_20 rfl ?_
    refine g_Ac_49 (pc := 21) rfl d_Ac_begins_21 (by assumption) ?_
    rw [qup_o (show 99 ≠ 100 by decide)]
    refine r_iconst (pc := 24) (v := 1) d_Ac_begins_24 rfl ?_
    refine r_iadd (pc := 25) d_Ac_begins_25 ?_
    refine p_Ac_49 (pc := 26) rfl d_Ac_begins_26 (by assumption) ?_
    exact r_vret d_Ac_begins_29 rfl (by omega) (by omega) (⟨rfl, rfl, rfl, rfl⟩)
theorem c_Ac_bodyOf {k a : Int32} : qMet E y_Ac_bodyOf b_Ac_bodyOf 5 (some .int) 2 0 0 [.int k, .int a] S I J (qPi S I J (qbodyOf k a)) := by
  refine qMet.of (L := [some (.int k), some (.int a), none, none, none]) (by decide +kernel) (Nat.le_of_ble_eq_true rfl) rfl ?_
  refine ldi_n_5_0 (pc := 0) d_Ac_bodyOf_0 ?_
  refine sti_n_5_2 (pc := 1) d_Ac_bodyOf_1 rfl ?_
  refine r_aboveN (pc := 2) fn_Ac_39 d_Ac_bodyOf_2 ?_
  refine r_alen0 (pc := 5) d_Ac_bodyOf_5 ?_
  refine sti_n_5_3 (pc := 6) d_Ac_bodyOf_6 rfl ?_
  have key : ∀ (n : Nat) (k2 : Int32), n ≤ 7 → qW E y_Ac_bodyOf b_Ac_bodyOf (some .int) 2 0 0 (qPi S I J (qbodyOfN a n k2)) 0 0 7 [some (.int k), some (.int a), some (.int k2), some (.int (nI n)), none] [] S I J := by
    intro n
    induction n with
    | zero =>
      intro k2 hn
      refine ldi_n_5_3 (pc := 7) d_Ac_bodyOf_7 ?_
      refine r_if_le (pc := 8) (tgt := 59) d_Ac_bodyOf_8 (by decide) (fun c => ?_) (fun c => ?_)
      · refine r_iconst (pc := 59) (v := 0) d_Ac_bodyOf_59 rfl ?_
        refine r_iret d_Ac_bodyOf_60 rfl (by omega) (by omega) ?_
        exact ⟨rfl, rfl, rfl, rfl⟩
      · exact absurd (by decide) c
    | succ n ih =>
      intro k2 hn
      have next : ∀ z : Int32, qW E y_Ac_bodyOf b_Ac_bodyOf (some .int) 2 0 0 (qPi S I J (qbodyOfN a n (qkabove k2))) 0 0 48 [some (.int k), some (.int a), some (.int k2), some (.int (nI (n + 1))), some (.int z)] [] S I J := by
        intro z
        refine ldi_n_5_2 (pc := 48) d_Ac_bodyOf_48 ?_
        refine r_callSN (pc := 49) (As := [.int k2]) k_Ac_45 sw_On_kindAbove rfl (by decide) d_Ac_bodyOf_49 (c_On_kindAbove k2) rfl (Nat.le_of_ble_eq_true rfl) (by omega) (by omega) (by omega) (fun v S' I' J' hq => ?_)
        obtain ⟨rfl, rfl, rfl, rfl⟩ := hq
        refine sti_n_5_2 (pc := 52) d_Ac_bodyOf_52 rfl ?_
        refine inc_5_3 (pc := 53) (w := (-1)) d_Ac_bodyOf_53 rfl rfl ?_
        refine r_goto (pc := 56) (tgt := 7) d_Ac_bodyOf_56 (by decide) ?_
        rw [show nI (n + 1) + -1 = nI n from pk_m1 n]
        exact qW.forget 4 (ih _ (by omega))
      refine ldi_n_5_3 (pc := 7) d_Ac_bodyOf_7 ?_
      refine r_if_le (pc := 8) (tgt := 59) d_Ac_bodyOf_8 (by decide) (fun c => ?_) (fun c => ?_)
      · exact absurd c (nI_nle (by omega) (by omega))
      · unfold qbodyOfN
        refine r_iconst (pc := 11) (v := 3) d_Ac_bodyOf_11 rfl ?_
        refine ldi_n_5_2 (pc := 12) d_Ac_bodyOf_12 ?_
        refine r_imul (pc := 13) d_Ac_bodyOf_13 ?_
        refine ldi_n_5_1 (pc := 14) d_Ac_bodyOf_14 ?_
        refine r_iadd (pc := 15) d_Ac_bodyOf_15 ?_
        refine sti_5_4 (pc := 16) d_Ac_bodyOf_16 rfl ?_
        refine ldi_5_4 (pc := 18) d_Ac_bodyOf_18 ?_
        refine r_if_lt (pc := 20) (tgt := 48) d_Ac_bodyOf_20 (by decide) (fun c1 => ?_) (fun c1 => ?_)
        · rw [if_neg (fun h => absurd h.1 (Int32.not_le.mpr c1))]
          exact next _
        · refine ldi_5_4 (pc := 23) d_Ac_bodyOf_23 ?_
          refine r_bodies (pc := 25) fl_Ac_42 d_Ac_bodyOf_25 ?_
          refine r_alen1 (pc := 28) d_Ac_bodyOf_28 ?_
          refine r_icmp_ge (pc := 29) (tgt := 48) d_Ac_bodyOf_29 (by decide) (fun c2 => ?_) (fun c2 => ?_)
          · rw [if_neg (fun h => absurd h.2.1 (Int32.not_lt.mpr c2))]
            exact next _
          · have hin : vp_in (3 * k2 + a) 21 := qin_of (by decide) c1 (Int32.not_le.mp c2)
            refine r_bodies (pc := 32) fl_Ac_42 d_Ac_bodyOf_32 ?_
            refine ldi_5_4 (pc := 35) d_Ac_bodyOf_35 ?_
            refine r_iald1 (pc := 37) d_Ac_bodyOf_37 (hin) ?_
            refine r_if_eq (pc := 38) (tgt := 48) d_Ac_bodyOf_38 (by decide) (fun c3 => ?_) (fun c3 => ?_)
            · rw [if_neg (fun h => h.2.2 c3)]
              exact next _
            · rw [if_pos ⟨Int32.not_lt.mp c1, Int32.not_le.mp c2, c3⟩]
              refine r_bodies (pc := 41) fl_Ac_42 d_Ac_bodyOf_41 ?_
              refine ldi_5_4 (pc := 44) d_Ac_bodyOf_44 ?_
              refine r_iald1 (pc := 46) d_Ac_bodyOf_46 (hin) ?_
              refine r_iret d_Ac_bodyOf_47 rfl (by omega) (by omega) ?_
              exact ⟨rfl, rfl, rfl, rfl⟩
  exact key 7 k (Nat.le_refl _)
theorem qabove_at : qabove.getD (1 : Int32).toNatClampNeg 0 = 0 ∧ qabove.getD (2 : Int32).toNatClampNeg 0 = 0 ∧ qabove.getD (3 : Int32).toNatClampNeg 0 = 0 ∧ qabove.getD (4 : Int32).toNatClampNeg 0 = 1 ∧ qabove.getD (5 : Int32).toNatClampNeg 0 = 2 ∧ qabove.getD (6 : Int32).toNatClampNeg 0 = 3 := by decide +kernel
theorem c_Ac_body {m : Nat} (hM : isAc S) (hMo : isMo S m) (h1 : m ≠ 99) (h2 : m ≠ 100) : ∀ (n d0 : Nat) (I : qI) (kd a x : Int32) (k : Nat), n + d0 = 21 → I 99 1 = nI k → k + 2 ^ n < 2 ^ 31 → qMet E y_Ac_body b_Ac_body 8 (some .int) (n + 3) 0 0 [.ref (qb E + 99), .ref (qb E + m), .int kd, .int a, .int x, .int (nI d0)] S I J (fun v S' I' J' => v = some (.int (qbody (I m 0) (I m 2) (I m 1) n kd a x).1) ∧ S = S' ∧ I' = qtrace I (qbody (I m 0) (I m 2) (I m 1) n kd a x).2 ∧ J = J') := by
  have hMo0 := hMo
  obtain ⟨gT, gA, gR⟩ := hMo
  have hM0 := hM
  obtain ⟨hT, hA, hR⟩ := hM
  obtain ⟨a1, a2, a3, a4, a5, a6⟩ := qabove_at
  intro n
  induction n with
  | zero =>
    intro d0 I kd a x k hn hk hb
    refine qMet.of (L := [some (.ref (qb E + 99)), some (.ref (qb E + m)), some (.int kd), some (.int a), some (.int x), some (.int (nI d0)), none, none]) (by decide +kernel) (Nat.le_of_ble_eq_true rfl) rfl ?_
    refine ldi_8_5 (pc := 0) d_Ac_body_0 ?_
    refine r_bipush (pc := 2) (v := 20) d_Ac_body_2 rfl ?_
    refine r_icmp_le (pc := 4) (tgt := 9) d_Ac_body_4 (by decide) (fun c => ?_) (fun c => ?_)
    · exact absurd (show nI d0 ≤ nI 20 from c) (nI_ge (by omega) (by omega))
    · refine r_iconst (pc := 7) (v := 0) d_Ac_body_7 rfl ?_
      refine r_iret d_Ac_body_8 rfl (by omega) (by omega) ?_
      exact ⟨rfl, rfl, rfl, rfl⟩
  | succ n ih =>
    intro d0 I kd a x k hn hk hb
    have hpw : 2 ^ (n + 1) = 2 ^ n + 2 ^ n := by omega
    have hp : 0 < 2 ^ n := Nat.two_pow_pos n
    refine qMet.of (L := [some (.ref (qb E + 99)), some (.ref (qb E + m)), some (.int kd), some (.int a), some (.int x), some (.int (nI d0)), none, none]) (by decide +kernel) (Nat.le_of_ble_eq_true rfl) rfl ?_
    refine ldi_8_5 (pc := 0) d_Ac_body_0 ?_
    refine r_bipush (pc := 2) (v := 20) d_Ac_body_2 rfl ?_
    refine r_icmp_le (pc := 4) (tgt := 9) d_Ac_body_4 (by decide) (fun c => ?_) (fun c => ?_)
    · refine ldi_8_5 (pc := 9) d_Ac_body_9 ?_
      refine r_iconst (pc := 11) (v := 1) d_Ac_body_11 rfl ?_
      refine r_iadd (pc := 12) d_Ac_body_12 ?_
      refine sti_8_6 (pc := 13) d_Ac_body_13 rfl ?_
      refine ldi_n_8_2 (pc := 15) d_Ac_body_15 ?_
      refine ldi_n_8_3 (pc := 16) d_Ac_body_16 ?_
      rw [q1]
      refine r_callS (pc := 17) (As := [.int kd, .int a]) k_Ac_15 sw_Ac_bodyOf rfl (by decide) d_Ac_body_17 (c_Ac_bodyOf) rfl (Nat.le_of_ble_eq_true rfl) (by omega) (by omega) (by omega) (fun v S' I' J' hq => ?_)
      obtain ⟨rfl, rfl, rfl, rfl⟩ := hq
      refine sti_8_7 (pc := 20) d_Ac_body_20 rfl ?_
      refine lda_n_8_0 (pc := 22) d_Ac_body_22 ?_
      refine ldi_8_7 (pc := 23) d_Ac_body_23 ?_
      refine r_callV (pc := 25) (As := [.int (qbodyOf kd a)]) (k := 0) (N := 2) (T := T_Ac) k_Ac_19 im_Ac_begins se_Ac_begins rfl (by decide) rfl (by decide) d_Ac_body_25 (by assumption) (c_Ac_begins hM0 hk (by omega)) rfl (Nat.le_of_ble_eq_true rfl) (by omega) (by omega) (by omega) (fun v S' I' J' hq => ?_)
      obtain ⟨rfl, rfl, rfl, rfl⟩ := hq
      have r0 : (qbegin I (qbodyOf kd a)) m = I m := qbegin_o h1 h2
      have hk2 : (qbegin I (qbodyOf kd a)) 99 1 = nI (k + 1) := by rw [qbegin_r, hk, q1]
      have ih1 := fun kd2 a2 x2 => ih (d0 + 1) (qbegin I (qbodyOf kd a)) kd2 a2 x2 (k + 1) (by omega) hk2 (by omega)
      rw [r0] at ih1
      have ih2 : ∀ (l : List Int32) (kd2 a2 x2 : Int32), l.length < 2 ^ n → qMet E y_Ac_body b_Ac_body 8 (some .int) (n + 3) 0 0 [.ref (qb E + 99), .ref (qb E + m), .int kd2, .int a2, .int x2, .int (nI (d0 + 1))] S (qtrace (qbegin I (qbodyOf kd a)) l) J (fun v S' I' J' => v = some (.int (qbody (I m 0) (I m 2) (I m 1) n kd2 a2 x2).1) ∧ S = S' ∧ I' = qtrace (qtrace (qbegin I (qbodyOf kd a)) l) (qbody (I m 0) (I m 2) (I m 1) n kd2 a2 x2).2 ∧ J = J') := by
        intro l kd2 a2 x2 hl
        have := ih (d0 + 1) (qtrace (qbegin I (qbodyOf kd a)) l) kd2 a2 x2 (k + 1 + l.length) (by omega) (qtrace_r l _ _ hk2) (by omega)
        rw [qtrace_o h1 h2, r0] at this
        exact this
      have tr2 : ∀ (l1 l2 : List Int32), qtrace (qtrace (qbegin I (qbodyOf kd a)) l1) l2 = qtrace I (qbodyOf kd a :: (l1 ++ l2)) := by
        intro l1 l2
        unfold qtrace
        rw [List.foldl_cons, List.foldl_append]
      have tr1 : ∀ (l1 : List Int32), qtrace (qbegin I (qbodyOf kd a)) l1 = qtrace I (qbodyOf kd a :: l1) := fun l1 => rfl
      refine ldi_8_7 (pc := 28) d_Ac_body_28 ?_
      unfold qbody
      generalize hbd : qbodyOf kd a = bd at *
      by_cases b10 : bd = 10
      · subst b10
        refine r_lookup (pc := 30) (off := 98) (tgt := 128) d_Ac_body_30 (by decide +kernel) (by decide +kernel) (by decide) ?_
        rw [if_pos rfl]
        refine ldi_8_4 (pc := 128) d_Ac_body_128 ?_
        refine lda_n_8_1 (pc := 130) d_Ac_body_130 ?_
        refine g_Ac_23 (pc := 131) rfl d_Ac_body_131 (by assumption) ?_
        rw [r0]
        refine r_iadd (pc := 134) d_Ac_body_134 ?_
        exact r_iret d_Ac_body_135 rfl (by omega) (by omega) (⟨rfl, rfl, rfl, rfl⟩)
      rw [if_neg b10]
      by_cases b11 : bd = 11
      · subst b11
        refine r_lookup (pc := 30) (off := 106) (tgt := 136) d_Ac_body_30 (by decide +kernel) (by decide +kernel) (by decide) ?_
        rw [if_pos rfl]
        refine lda_n_8_0 (pc := 136) d_Ac_body_136 ?_
        refine lda_n_8_1 (pc := 137) d_Ac_body_137 ?_
        refine lda_n_8_1 (pc := 138) d_Ac_body_138 ?_
        refine g_Ac_29 (pc := 139) rfl d_Ac_body_139 (by assumption) ?_
        rw [r0]
        refine r_iconst (pc := 142) (v := 0) d_Ac_body_142 rfl ?_
        refine ldi_8_4 (pc := 143) d_Ac_body_143 ?_
        refine ldi_8_6 (pc := 145) d_Ac_body_145 ?_
        refine r_callV (pc := 147) (As := [.ref (qb E + m), .int (I m 1), .int 0, .int x, .int (nI (d0 + 1))]) (k := 0) (N := 2) (T := T_Ac) k_Ac_32 im_Ac_body se_Ac_body rfl (by decide) rfl (by decide) d_Ac_body_147 (by assumption) (ih1 (I m 1) 0 x) rfl (Nat.le_of_ble_eq_true rfl) (by omega) (by omega) (by omega) (fun v S' I' J' hq => ?_)
        obtain ⟨rfl, rfl, rfl, rfl⟩ := hq
        refine lda_n_8_1 (pc := 150) d_Ac_body_150 ?_
        refine g_Ac_36 (pc := 151) rfl d_Ac_body_151 (by assumption) ?_
        rw [qtrace_o h1 h2, r0]
        refine r_isub (pc := 154) d_Ac_body_154 ?_
        exact r_iret d_Ac_body_155 rfl (by omega) (by omega) (⟨rfl, rfl, rfl, rfl⟩)
      rw [if_neg b11]
      by_cases b12 : bd = 12
      · subst b12
        refine r_lookup (pc := 30) (off := 126) (tgt := 156) d_Ac_body_30 (by decide +kernel) (by decide +kernel) (by decide) ?_
        rw [if_pos rfl]
        refine lda_n_8_0 (pc := 156) d_Ac_body_156 ?_
        refine lda_n_8_1 (pc := 157) d_Ac_body_157 ?_
        refine lda_n_8_1 (pc := 158) d_Ac_body_158 ?_
        refine g_Ac_29 (pc := 159) rfl d_Ac_body_159 (by assumption) ?_
        rw [r0]
        refine r_iconst (pc := 162) (v := 1) d_Ac_body_162 rfl ?_
        refine ldi_8_4 (pc := 163) d_Ac_body_163 ?_
        refine ldi_8_6 (pc := 165) d_Ac_body_165 ?_
        refine r_callV (pc := 167) (As := [.ref (qb E + m), .int (I m 1), .int 1, .int x, .int (nI (d0 + 1))]) (k := 0) (N := 2) (T := T_Ac) k_Ac_32 im_Ac_body se_Ac_body rfl (by decide) rfl (by decide) d_Ac_body_167 (by assumption) (ih1 (I m 1) 1 x) rfl (Nat.le_of_ble_eq_true rfl) (by omega) (by omega) (by omega) (fun v S' I' J' hq => ?_)
        obtain ⟨rfl, rfl, rfl, rfl⟩ := hq
        refine r_iconst (pc := 170) (v := 2) d_Ac_body_170 rfl ?_
        refine r_imul (pc := 171) d_Ac_body_171 ?_
        exact r_iret d_Ac_body_172 rfl (by omega) (by omega) (⟨rfl, rfl, rfl, rfl⟩)
      rw [if_neg b12]
      by_cases b20 : bd = 20
      · subst b20
        refine r_lookup (pc := 30) (off := 143) (tgt := 173) d_Ac_body_30 (by decide +kernel) (by decide +kernel) (by decide) ?_
        rw [if_pos rfl]
        refine lda_n_8_0 (pc := 173) d_Ac_body_173 ?_
        refine lda_n_8_1 (pc := 174) d_Ac_body_174 ?_
        refine r_aboveN (pc := 175) fn_Ac_39 d_Ac_body_175 ?_
        refine r_iconst (pc := 178) (v := 1) d_Ac_body_178 rfl ?_
        refine r_iald0 (pc := 179) d_Ac_body_179 (by first | assumption | exact vp_in_nI (by omega) (by omega) | (unfold vp_in; decide)) ?_
        rw [a1]
        refine r_iconst (pc := 180) (v := 1) d_Ac_body_180 rfl ?_
        refine ldi_8_4 (pc := 181) d_Ac_body_181 ?_
        refine ldi_8_6 (pc := 183) d_Ac_body_183 ?_
        refine r_callV (pc := 185) (As := [.ref (qb E + m), .int 0, .int 1, .int x, .int (nI (d0 + 1))]) (k := 0) (N := 2) (T := T_Ac) k_Ac_32 im_Ac_body se_Ac_body rfl (by decide) rfl (by decide) d_Ac_body_185 (by assumption) (ih1 0 1 x) rfl (Nat.le_of_ble_eq_true rfl) (by omega) (by omega) (by omega) (fun v S' I' J' hq => ?_)
        obtain ⟨rfl, rfl, rfl, rfl⟩ := hq
        refine r_bipush (pc := 188) (v := 6) d_Ac_body_188 rfl ?_
        refine r_ixor (pc := 190) d_Ac_body_190 ?_
        exact r_iret d_Ac_body_191 rfl (by omega) (by omega) (⟨rfl, rfl, rfl, rfl⟩)
      rw [if_neg b20]
      by_cases b30 : bd = 30
      · subst b30
        refine r_lookup (pc := 30) (off := 162) (tgt := 192) d_Ac_body_30 (by decide +kernel) (by decide +kernel) (by decide) ?_
        rw [if_pos rfl]
        refine lda_n_8_0 (pc := 192) d_Ac_body_192 ?_
        refine lda_n_8_1 (pc := 193) d_Ac_body_193 ?_
        refine r_aboveN (pc := 194) fn_Ac_39 d_Ac_body_194 ?_
        refine r_iconst (pc := 197) (v := 2) d_Ac_body_197 rfl ?_
        refine r_iald0 (pc := 198) d_Ac_body_198 (by first | assumption | exact vp_in_nI (by omega) (by omega) | (unfold vp_in; decide)) ?_
        rw [a2]
        refine r_iconst (pc := 199) (v := 0) d_Ac_body_199 rfl ?_
        refine ldi_8_4 (pc := 200) d_Ac_body_200 ?_
        refine r_iconst (pc := 202) (v := 3) d_Ac_body_202 rfl ?_
        refine r_imul (pc := 203) d_Ac_body_203 ?_
        refine ldi_8_6 (pc := 204) d_Ac_body_204 ?_
        refine r_callV (pc := 206) (As := [.ref (qb E + m), .int 0, .int 0, .int (x * 3), .int (nI (d0 + 1))]) (k := 0) (N := 2) (T := T_Ac) k_Ac_32 im_Ac_body se_Ac_body rfl (by decide) rfl (by decide) d_Ac_body_206 (by assumption) (ih1 0 0 (x * 3)) rfl (Nat.le_of_ble_eq_true rfl) (by omega) (by omega) (by omega) (fun v S' I' J' hq => ?_)
        obtain ⟨rfl, rfl, rfl, rfl⟩ := hq
        exact r_iret d_Ac_body_209 rfl (by omega) (by omega) (⟨rfl, rfl, rfl, rfl⟩)
      rw [if_neg b30]
      by_cases b40 : bd = 40
      · subst b40
        refine r_lookup (pc := 30) (off := 180) (tgt := 210) d_Ac_body_30 (by decide +kernel) (by decide +kernel) (by decide) ?_
        rw [if_pos rfl]
        refine lda_n_8_0 (pc := 210) d_Ac_body_210 ?_
        refine lda_n_8_1 (pc := 211) d_Ac_body_211 ?_
        refine r_aboveN (pc := 212) fn_Ac_39 d_Ac_body_212 ?_
        refine r_iconst (pc := 215) (v := 3) d_Ac_body_215 rfl ?_
        refine r_iald0 (pc := 216) d_Ac_body_216 (by first | assumption | exact vp_in_nI (by omega) (by omega) | (unfold vp_in; decide)) ?_
        rw [a3]
        refine r_iconst (pc := 217) (v := 2) d_Ac_body_217 rfl ?_
        refine ldi_8_4 (pc := 218) d_Ac_body_218 ?_
        refine ldi_8_6 (pc := 220) d_Ac_body_220 ?_
        refine r_callV (pc := 222) (As := [.ref (qb E + m), .int 0, .int 2, .int x, .int (nI (d0 + 1))]) (k := 0) (N := 2) (T := T_Ac) k_Ac_32 im_Ac_body se_Ac_body rfl (by decide) rfl (by decide) d_Ac_body_222 (by assumption) (ih1 0 2 x) rfl (Nat.le_of_ble_eq_true rfl) (by omega) (by omega) (by omega) (fun v S' I' J' hq => ?_)
        obtain ⟨rfl, rfl, rfl, rfl⟩ := hq
        refine lda_n_8_0 (pc := 225) d_Ac_body_225 ?_
        refine lda_n_8_1 (pc := 226) d_Ac_body_226 ?_
        refine lda_n_8_1 (pc := 227) d_Ac_body_227 ?_
        refine g_Ac_29 (pc := 228) rfl d_Ac_body_228 (by assumption) ?_
        rw [qtrace_o h1 h2, r0]
        refine r_iconst (pc := 231) (v := 1) d_Ac_body_231 rfl ?_
        refine r_iconst (pc := 232) (v := 1) d_Ac_body_232 rfl ?_
        refine ldi_8_6 (pc := 233) d_Ac_body_233 ?_
        refine r_callV (pc := 235) (As := [.ref (qb E + m), .int (I m 1), .int 1, .int 1, .int (nI (d0 + 1))]) (k := 0) (N := 2) (T := T_Ac) k_Ac_32 im_Ac_body se_Ac_body rfl (by decide) rfl (by decide) d_Ac_body_235 (by assumption) (ih2 _ (I m 1) 1 1 (qbody_len _ _ _ _ _ _ _)) rfl (Nat.le_of_ble_eq_true rfl) (by omega) (by omega) (by omega) (fun v S' I' J' hq => ?_)
        obtain ⟨rfl, rfl, rfl, rfl⟩ := hq
        refine r_iadd (pc := 238) d_Ac_body_238 ?_
        exact r_iret d_Ac_body_239 rfl (by omega) (by omega) (⟨rfl, rfl, tr2 _ _, rfl⟩)
      rw [if_neg b40]
      by_cases b50 : bd = 50
      · subst b50
        refine r_lookup (pc := 30) (off := 210) (tgt := 240) d_Ac_body_30 (by decide +kernel) (by decide +kernel) (by decide) ?_
        rw [if_pos rfl]
        refine lda_n_8_0 (pc := 240) d_Ac_body_240 ?_
        refine lda_n_8_1 (pc := 241) d_Ac_body_241 ?_
        refine r_aboveN (pc := 242) fn_Ac_39 d_Ac_body_242 ?_
        refine r_iconst (pc := 245) (v := 4) d_Ac_body_245 rfl ?_
        refine r_iald0 (pc := 246) d_Ac_body_246 (by first | assumption | exact vp_in_nI (by omega) (by omega) | (unfold vp_in; decide)) ?_
        rw [a4]
        refine r_iconst (pc := 247) (v := 0) d_Ac_body_247 rfl ?_
        refine ldi_8_4 (pc := 248) d_Ac_body_248 ?_
        refine ldi_8_6 (pc := 250) d_Ac_body_250 ?_
        refine r_callV (pc := 252) (As := [.ref (qb E + m), .int 1, .int 0, .int x, .int (nI (d0 + 1))]) (k := 0) (N := 2) (T := T_Ac) k_Ac_32 im_Ac_body se_Ac_body rfl (by decide) rfl (by decide) d_Ac_body_252 (by assumption) (ih1 1 0 x) rfl (Nat.le_of_ble_eq_true rfl) (by omega) (by omega) (by omega) (fun v S' I' J' hq => ?_)
        obtain ⟨rfl, rfl, rfl, rfl⟩ := hq
        refine r_ineg (pc := 255) d_Ac_body_255 ?_
        exact r_iret d_Ac_body_256 rfl (by omega) (by omega) (⟨rfl, rfl, rfl, rfl⟩)
      rw [if_neg b50]
      by_cases b51 : bd = 51
      · subst b51
        refine r_lookup (pc := 30) (off := 227) (tgt := 257) d_Ac_body_30 (by decide +kernel) (by decide +kernel) (by decide) ?_
        rw [if_pos rfl]
        refine lda_n_8_0 (pc := 257) d_Ac_body_257 ?_
        refine lda_n_8_1 (pc := 258) d_Ac_body_258 ?_
        refine r_aboveN (pc := 259) fn_Ac_39 d_Ac_body_259 ?_
        refine r_iconst (pc := 262) (v := 4) d_Ac_body_262 rfl ?_
        refine r_iald0 (pc := 263) d_Ac_body_263 (by first | assumption | exact vp_in_nI (by omega) (by omega) | (unfold vp_in; decide)) ?_
        rw [a4]
        refine r_iconst (pc := 264) (v := 1) d_Ac_body_264 rfl ?_
        refine ldi_8_4 (pc := 265) d_Ac_body_265 ?_
        refine r_iconst (pc := 267) (v := 1) d_Ac_body_267 rfl ?_
        refine r_iadd (pc := 268) d_Ac_body_268 ?_
        refine ldi_8_6 (pc := 269) d_Ac_body_269 ?_
        refine r_callV (pc := 271) (As := [.ref (qb E + m), .int 1, .int 1, .int (x + 1), .int (nI (d0 + 1))]) (k := 0) (N := 2) (T := T_Ac) k_Ac_32 im_Ac_body se_Ac_body rfl (by decide) rfl (by decide) d_Ac_body_271 (by assumption) (ih1 1 1 (x + 1)) rfl (Nat.le_of_ble_eq_true rfl) (by omega) (by omega) (by omega) (fun v S' I' J' hq => ?_)
        obtain ⟨rfl, rfl, rfl, rfl⟩ := hq
        exact r_iret d_Ac_body_274 rfl (by omega) (by omega) (⟨rfl, rfl, rfl, rfl⟩)
      rw [if_neg b51]
      by_cases b60 : bd = 60
      · subst b60
        refine r_lookup (pc := 30) (off := 245) (tgt := 275) d_Ac_body_30 (by decide +kernel) (by decide +kernel) (by decide) ?_
        rw [if_pos rfl]
        refine lda_n_8_0 (pc := 275) d_Ac_body_275 ?_
        refine lda_n_8_1 (pc := 276) d_Ac_body_276 ?_
        refine r_aboveN (pc := 277) fn_Ac_39 d_Ac_body_277 ?_
        refine r_iconst (pc := 280) (v := 5) d_Ac_body_280 rfl ?_
        refine r_iald0 (pc := 281) d_Ac_body_281 (by first | assumption | exact vp_in_nI (by omega) (by omega) | (unfold vp_in; decide)) ?_
        rw [a5]
        refine r_iconst (pc := 282) (v := 2) d_Ac_body_282 rfl ?_
        refine ldi_8_4 (pc := 283) d_Ac_body_283 ?_
        refine lda_n_8_1 (pc := 285) d_Ac_body_285 ?_
        refine g_Ac_23 (pc := 286) rfl d_Ac_body_286 (by assumption) ?_
        rw [r0]
        refine r_isub (pc := 289) d_Ac_body_289 ?_
        refine ldi_8_6 (pc := 290) d_Ac_body_290 ?_
        refine r_callV (pc := 292) (As := [.ref (qb E + m), .int 2, .int 2, .int (x - I m 0), .int (nI (d0 + 1))]) (k := 0) (N := 2) (T := T_Ac) k_Ac_32 im_Ac_body se_Ac_body rfl (by decide) rfl (by decide) d_Ac_body_292 (by assumption) (ih1 2 2 (x - I m 0)) rfl (Nat.le_of_ble_eq_true rfl) (by omega) (by omega) (by omega) (fun v S' I' J' hq => ?_)
        obtain ⟨rfl, rfl, rfl, rfl⟩ := hq
        exact r_iret d_Ac_body_295 rfl (by omega) (by omega) (⟨rfl, rfl, rfl, rfl⟩)
      rw [if_neg b60]
      by_cases b70 : bd = 70
      · subst b70
        refine r_lookup (pc := 30) (off := 266) (tgt := 296) d_Ac_body_30 (by decide +kernel) (by decide +kernel) (by decide) ?_
        rw [if_pos rfl]
        refine lda_n_8_0 (pc := 296) d_Ac_body_296 ?_
        refine lda_n_8_1 (pc := 297) d_Ac_body_297 ?_
        refine r_aboveN (pc := 298) fn_Ac_39 d_Ac_body_298 ?_
        refine r_bipush (pc := 301) (v := 6) d_Ac_body_301 rfl ?_
        refine r_iald0 (pc := 303) d_Ac_body_303 (by first | assumption | exact vp_in_nI (by omega) (by omega) | (unfold vp_in; decide)) ?_
        rw [a6]
        refine r_iconst (pc := 304) (v := 1) d_Ac_body_304 rfl ?_
        refine ldi_8_4 (pc := 305) d_Ac_body_305 ?_
        refine ldi_8_6 (pc := 307) d_Ac_body_307 ?_
        refine r_callV (pc := 309) (As := [.ref (qb E + m), .int 3, .int 1, .int x, .int (nI (d0 + 1))]) (k := 0) (N := 2) (T := T_Ac) k_Ac_32 im_Ac_body se_Ac_body rfl (by decide) rfl (by decide) d_Ac_body_309 (by assumption) (ih1 3 1 x) rfl (Nat.le_of_ble_eq_true rfl) (by omega) (by omega) (by omega) (fun v S' I' J' hq => ?_)
        obtain ⟨rfl, rfl, rfl, rfl⟩ := hq
        refine lda_n_8_0 (pc := 312) d_Ac_body_312 ?_
        refine lda_n_8_1 (pc := 313) d_Ac_body_313 ?_
        refine r_aboveN (pc := 314) fn_Ac_39 d_Ac_body_314 ?_
        refine r_bipush (pc := 317) (v := 6) d_Ac_body_317 rfl ?_
        refine r_iald0 (pc := 319) d_Ac_body_319 (by first | assumption | exact vp_in_nI (by omega) (by omega) | (unfold vp_in; decide)) ?_
        rw [a6]
        refine r_iconst (pc := 320) (v := 0) d_Ac_body_320 rfl ?_
        refine r_iconst (pc := 321) (v := 2) d_Ac_body_321 rfl ?_
        refine ldi_8_6 (pc := 322) d_Ac_body_322 ?_
        refine r_callV (pc := 324) (As := [.ref (qb E + m), .int 3, .int 0, .int 2, .int (nI (d0 + 1))]) (k := 0) (N := 2) (T := T_Ac) k_Ac_32 im_Ac_body se_Ac_body rfl (by decide) rfl (by decide) d_Ac_body_324 (by assumption) (ih2 _ 3 0 2 (qbody_len _ _ _ _ _ _ _)) rfl (Nat.le_of_ble_eq_true rfl) (by omega) (by omega) (by omega) (fun v S' I' J' hq => ?_)
        obtain ⟨rfl, rfl, rfl, rfl⟩ := hq
        refine r_iadd (pc := 327) d_Ac_body_327 ?_
        exact r_iret d_Ac_body_328 rfl (by omega) (by omega) (⟨rfl, rfl, tr2 _ _, rfl⟩)
      rw [if_neg b70]
      by_cases b71 : bd = 71
      · subst b71
        refine r_lookup (pc := 30) (off := 299) (tgt := 329) d_Ac_body_30 (by decide +kernel) (by decide +kernel) (by decide) ?_
        rw [if_pos rfl]
        refine lda_n_8_0 (pc := 329) d_Ac_body_329 ?_
        refine lda_n_8_1 (pc := 330) d_Ac_body_330 ?_
        refine r_aboveN (pc := 331) fn_Ac_39 d_Ac_body_331 ?_
        refine r_bipush (pc := 334) (v := 6) d_Ac_body_334 rfl ?_
        refine r_iald0 (pc := 336) d_Ac_body_336 (by first | assumption | exact vp_in_nI (by omega) (by omega) | (unfold vp_in; decide)) ?_
        rw [a6]
        refine r_iconst (pc := 337) (v := 0) d_Ac_body_337 rfl ?_
        refine ldi_8_4 (pc := 338) d_Ac_body_338 ?_
        refine ldi_8_6 (pc := 340) d_Ac_body_340 ?_
        refine r_callV (pc := 342) (As := [.ref (qb E + m), .int 3, .int 0, .int x, .int (nI (d0 + 1))]) (k := 0) (N := 2) (T := T_Ac) k_Ac_32 im_Ac_body se_Ac_body rfl (by decide) rfl (by decide) d_Ac_body_342 (by assumption) (ih1 3 0 x) rfl (Nat.le_of_ble_eq_true rfl) (by omega) (by omega) (by omega) (fun v S' I' J' hq => ?_)
        obtain ⟨rfl, rfl, rfl, rfl⟩ := hq
        refine lda_n_8_1 (pc := 345) d_Ac_body_345 ?_
        refine g_Ac_36 (pc := 346) rfl d_Ac_body_346 (by assumption) ?_
        rw [qtrace_o h1 h2, r0]
        refine r_ixor (pc := 349) d_Ac_body_349 ?_
        exact r_iret d_Ac_body_350 rfl (by omega) (by omega) (⟨rfl, rfl, rfl, rfl⟩)
      rw [if_neg b71]
      have f : ∀ (z : Int32) (j : Int), bd ≠ z → z.toInt = j → ¬ bd.toInt = j := fun z j h e q => h (Int32.toInt_inj.mp (by rw [q, e]))
      have g1 := f 10 10 b10 rfl; have g2 := f 11 11 b11 rfl; have g3 := f 12 12 b12 rfl; have g4 := f 20 20 b20 rfl; have g5 := f 30 30 b30 rfl; have g6 := f 40 40 b40 rfl; have g7 := f 50 50 b50 rfl; have g8 := f 51 51 b51 rfl; have g9 := f 60 60 b60 rfl; have g10 := f 70 70 b70 rfl; have g11 := f 71 71 b71 rfl
      refine r_lookup (pc := 30) (off := 321) (tgt := 351) d_Ac_body_30 (by decide +kernel) (by simp [Op.lookupswitch.offset, Ne.symm, g1, g2, g3, g4, g5, g6, g7, g8, g9, g10, g11]) (by decide) ?_
      refine r_iconst (pc := 351) (v := 0) d_Ac_body_351 rfl ?_
      exact r_iret d_Ac_body_352 rfl (by omega) (by omega) (⟨rfl, rfl, rfl, rfl⟩)
    · exact absurd (show nI d0 ≤ nI 20 from nI_le (by omega) (by omega)) c
end QC4
