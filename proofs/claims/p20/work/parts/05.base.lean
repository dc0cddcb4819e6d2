/-! what all walks share: counted loops, small numbers, shapes -/
theorem qfor {P : Nat → Prop} (n : Nat) (hend : P n) (hstep : ∀ k, k < n → P (k + 1) → P k) : ∀ k, k ≤ n → P k := by
  intro k hk
  obtain ⟨j, rfl⟩ := Nat.exists_eq_add_of_le hk
  induction j generalizing k with
  | zero => exact hend
  | succ j ih =>
    refine hstep k (by omega) ?_
    have := ih (k + 1) (by rw [show k + 1 + j = k + (j + 1) by omega]; exact hend) (by rw [show k + 1 + j = k + (j + 1) by omega]; exact hstep) (by omega)
    exact this
theorem q0 : (0 : Int32) = nI 0 := nI_0.symm
theorem q1 (k : Nat) : nI k + 1 = nI (k + 1) := nI_1 k
theorem qcl {n : Nat} (h : n < 2 ^ 31) : (nI n).toNatClampNeg = n := nI_clamp h
def isMo (S : qSh) (o : Nat) : Prop := qT S o 2 ∧ qAr S (o + 1) 11 4 ∧ qR S o 7 = some (o + 1)
def isNo (S : qSh) (o n : Nat) : Prop := qT S o 4 ∧ qAr S (o + 1) 11 n ∧ qAr S (o + 2) 11 n ∧ qAr S (o + 3) 11 n ∧ qR S o 0 = some (o + 1) ∧ qR S o 1 = some (o + 2) ∧ qR S o 2 = some (o + 3)
def isIs (S : qSh) (o : Nat) : Prop := qT S o 1 ∧ qAr S (o + 1) 11 100 ∧ qAr S (o + 2) 11 10 ∧ qAr S (o + 3) 11 10 ∧ qAr S (o + 4) 11 6 ∧ qR S o 0 = some (o + 1) ∧ qR S o 2 = some (o + 2) ∧ qR S o 3 = some (o + 3) ∧ qR S o 6 = some (o + 4)
def isMg (S : qSh) (o i : Nat) : Prop := qT S o 3 ∧ qAr S (o + 1) 14 6 ∧ qAr S (o + 2) 11 6 ∧ qR S o 0 = some (o + 1) ∧ qR S o 2 = some (o + 2) ∧ qR S o 5 = some i ∧ qR S o 6 = some (o + 3) ∧ qR S o 7 = some (o + 7) ∧ qR S o 8 = some (o + 11) ∧ isNo S (o + 3) 5 ∧ isNo S (o + 7) 10 ∧ isNo S (o + 11) 8 ∧ isIs S i ∧ (∀ p, p < 6 → qR S (o + 1) p = some (o + 15 + 2 * p)) ∧ ∀ p, p < 6 → isMo S (o + 15 + 2 * p)
def isRe (S : qSh) : Prop := qT S 87 5 ∧ qAr S 88 10 100 ∧ qR S 87 0 = some 88
def isRo (S : qSh) : Prop := qT S 94 6 ∧ qAr S 95 11 36 ∧ qAr S 96 11 6 ∧ qAr S 97 11 6 ∧ qAr S 98 11 6 ∧ qR S 94 0 = some 95 ∧ qR S 94 1 = some 96 ∧ qR S 94 3 = some 97 ∧ qR S 94 4 = some 98
def isAc (S : qSh) : Prop := qT S 99 0 ∧ qAr S 100 11 20 ∧ qR S 99 0 = some 100
def isTa (S : qSh) (o : Nat) : Prop := qT S o 7 ∧ qAr S (o + 1) 12 60 ∧ qR S o 2 = some (o + 1)
/-- the whole object: which island now, ahead, image hold, and which is blank -/
def isOn (S : qSh) (w0 w1 w2 bl : Nat) : Prop := qT S 0 8 ∧ qR S 0 0 = some 1 ∧ qR S 0 1 = some 6 ∧ qR S 0 2 = some 33 ∧ qR S 0 3 = some 60 ∧ qR S 0 5 = some 87 ∧ qR S 0 6 = some bl ∧ qR S 0 8 = some 94 ∧ qR S 0 9 = some 99 ∧ qR S 0 10 = some 101 ∧
  isIs S 1 ∧ isMg S 6 w0 ∧ isMg S 33 w1 ∧ isMg S 60 w2 ∧ isRe S ∧ isIs S bl ∧ isRo S ∧ isAc S ∧ qAr S 101 15 6 ∧ (∀ t, t < 6 → qR S 101 t = some (102 + 2 * t)) ∧ ∀ t, t < 6 → isTa S (102 + 2 * t)
/-- the answer alone, no cell changed -/
abbrev qPi (S : qSh) (I : qI) (J : qJ) (r : Int32) : qPost := fun v S' I' J' => v = some (.int r) ∧ S = S' ∧ I = I' ∧ J = J'
abbrev qPiP (S : qSh) (I : qI) (J : qJ) (P : Int32 → Prop) : qPost := fun v S' I' J' => ∃ r, v = some (.int r) ∧ P r ∧ S = S' ∧ I = I' ∧ J = J'
abbrev qPl (S : qSh) (I : qI) (J : qJ) (r : Int64) : qPost := fun v S' I' J' => v = some (.long r) ∧ S = S' ∧ I = I' ∧ J = J'
def qwithin (n a b : Int32) : Int32 := if a ≤ n ∧ n ≤ b then 1 else 0
theorem qwithin_b {n a b : Int32} : qbool (qwithin n a b) := by unfold qwithin; split <;> simp [qbool]
theorem qbit_b {c : Prop} [Decidable c] : qbool (if c then 1 else 0) := by split <;> simp [qbool]
theorem qwithin_1 {n a b : Int32} (h1 : ¬ n < a) (h2 : ¬ b < n) : qwithin n a b = 1 := by
  unfold qwithin; rw [if_pos]; simp only [Int32.not_lt] at h1 h2; exact ⟨h1, h2⟩
theorem qwithin_0 {n a b : Int32} (h : n < a ∨ b < n) : qwithin n a b = 0 := by
  unfold qwithin; rw [if_neg]; intro ⟨h1, h2⟩
  rcases h with h | h
  · exact absurd h (Int32.not_lt.mpr h1)
  · exact absurd h (Int32.not_lt.mpr h2)
theorem qwithin_y {n a b : Int32} (h : ¬ qwithin n a b = 0) : a ≤ n ∧ n ≤ b := by
  unfold qwithin at h
  split at h
  · assumption
  · exact absurd rfl h
theorem qwithin_n {n a b : Int32} (h : qwithin n a b = 0) : ¬ (a ≤ n ∧ n ≤ b) := by
  unfold qwithin at h
  split at h
  · exact absurd h (by decide)
  · assumption
section QCON
variable {E : qE} {S : qSh} {I : qI} {J : qJ}
theorem c_On_within (n a b : Int32) : qMet E y_On_within b_On_within 3 (some .boolean) 0 0 0 [.int n, .int a, .int b] S I J (qPi S I J (qwithin n a b)) := by
  refine qMet.of (L := [some (.int n), some (.int a), some (.int b)]) (by decide +kernel) (Nat.le_of_ble_eq_true rfl) rfl ?_
  refine ldi_n_3_0 (pc := 0) d_On_within_0 ?_
  refine ldi_n_3_1 (pc := 1) d_On_within_1 ?_
  refine r_icmp_lt (pc := 2) (tgt := 14) d_On_within_2 (by decide) (fun c2 => ?_) (fun c2 => ?_)
  · refine r_iconst (pc := 14) (v := 0) d_On_within_14 rfl ?_
    refine r_nret d_On_within_15 rfl (qbool_n (by first | exact Or.inl rfl | exact Or.inr rfl | assumption | exact qwithin_b | exact qbit_b)) (by omega) (by omega) ?_
    first | exact ⟨by rw [qwithin_0 (Or.inl (by assumption))], rfl, rfl, rfl⟩ | exact ⟨by rw [qwithin_0 (Or.inr (by assumption))], rfl, rfl, rfl⟩ | exact ⟨by rw [qwithin_1 (by assumption) (by assumption)], rfl, rfl, rfl⟩
  · refine ldi_n_3_0 (pc := 5) d_On_within_5 ?_
    refine ldi_n_3_2 (pc := 6) d_On_within_6 ?_
    refine r_icmp_gt (pc := 7) (tgt := 14) d_On_within_7 (by decide) (fun c7 => ?_) (fun c7 => ?_)
    · refine r_iconst (pc := 14) (v := 0) d_On_within_14 rfl ?_
      refine r_nret d_On_within_15 rfl (qbool_n (by first | exact Or.inl rfl | exact Or.inr rfl | assumption | exact qwithin_b | exact qbit_b)) (by omega) (by omega) ?_
      first | exact ⟨by rw [qwithin_0 (Or.inl (by assumption))], rfl, rfl, rfl⟩ | exact ⟨by rw [qwithin_0 (Or.inr (by assumption))], rfl, rfl, rfl⟩ | exact ⟨by rw [qwithin_1 (by assumption) (by assumption)], rfl, rfl, rfl⟩
    · refine r_iconst (pc := 10) (v := 1) d_On_within_10 rfl ?_
      refine r_goto (pc := 11) (tgt := 15) d_On_within_11 (by decide) ?_
      refine r_nret d_On_within_15 rfl (qbool_n (by first | exact Or.inl rfl | exact Or.inr rfl | assumption | exact qwithin_b | exact qbit_b)) (by omega) (by omega) ?_
      first | exact ⟨by rw [qwithin_0 (Or.inl (by assumption))], rfl, rfl, rfl⟩ | exact ⟨by rw [qwithin_0 (Or.inr (by assumption))], rfl, rfl, rfl⟩ | exact ⟨by rw [qwithin_1 (by assumption) (by assumption)], rfl, rfl, rfl⟩
theorem c_On_bit (b : Int32) : qMet E y_On_bit b_On_bit 1 (some .int) 0 0 0 [.int b] S I J (qPi S I J (if b = 0 then 0 else 1)) := by
  refine qMet.of (L := [some (.int b)]) (by decide +kernel) (Nat.le_of_ble_eq_true rfl) rfl ?_
  refine ldi_n_1_0 (pc := 0) d_On_bit_0 ?_
  refine r_if_eq (pc := 1) (tgt := 8) d_On_bit_1 (by decide) (fun c1 => ?_) (fun c1 => ?_)
  · refine r_iconst (pc := 8) (v := 0) d_On_bit_8 rfl ?_
    refine r_iret d_On_bit_9 rfl (by omega) (by omega) ?_
    simp_all [qPi]
  · refine r_iconst (pc := 4) (v := 1) d_On_bit_4 rfl ?_
    refine r_goto (pc := 5) (tgt := 9) d_On_bit_5 (by decide) ?_
    refine r_iret d_On_bit_9 rfl (by omega) (by omega) ?_
    simp_all [qPi]
theorem c_On_isTape (n : Int32) : qMet E y_On_isTape b_On_isTape 1 (some .boolean) 1 0 0 [.int n] S I J (qPi S I J (qwithin n 0 5)) := by
  refine qMet.of (L := [some (.int n)]) (by decide +kernel) (Nat.le_of_ble_eq_true rfl) rfl ?_
  refine ldi_n_1_0 (pc := 0) d_On_isTape_0 ?_
  refine r_iconst (pc := 1) (v := 0) d_On_isTape_1 rfl ?_
  refine r_iconst (pc := 2) (v := 5) d_On_isTape_2 rfl ?_
  refine r_callS (pc := 3) (As := [.int n, .int 0, .int 5]) k_On_64 sw_On_within rfl (by decide) d_On_isTape_3 (c_On_within n 0 5) rfl (Nat.le_of_ble_eq_true rfl) (by omega) (by omega) (by omega) (fun v S' I' J' hq => ?_)
  obtain ⟨rfl, rfl, rfl, rfl⟩ := hq
  exact r_nret d_On_isTape_6 rfl (qbool_n (by first | exact Or.inl rfl | exact Or.inr rfl | assumption | exact qwithin_b | exact qbit_b)) (by omega) (by omega) (⟨rfl, rfl, rfl, rfl⟩)
def qkabove (k : Int32) : Int32 := if 0 ≤ k ∧ k ≤ 6 then qabove.getD k.toNatClampNeg 0 else -1
theorem c_On_kindAbove (k : Int32) : qMet E y_On_kindAbove b_On_kindAbove 1 (some .int) 1 0 0 [.int k] S I J (qPi S I J (qkabove k)) := by
  refine qMet.of (L := [some (.int k)]) (by decide +kernel) (Nat.le_of_ble_eq_true rfl) rfl ?_
  refine ldi_n_1_0 (pc := 0) d_On_kindAbove_0 ?_
  refine r_iconst (pc := 1) (v := 0) d_On_kindAbove_1 rfl ?_
  refine r_bipush (pc := 2) (v := 6) d_On_kindAbove_2 rfl ?_
  refine r_callS (pc := 4) (As := [.int k, .int 0, .int 6]) k_On_64 sw_On_within rfl (by decide) d_On_kindAbove_4 (c_On_within k 0 6) rfl (Nat.le_of_ble_eq_true rfl) (by omega) (by omega) (by omega) (fun v S' I' J' hq => ?_)
  obtain ⟨rfl, rfl, rfl, rfl⟩ := hq
  refine r_if_eq (pc := 7) (tgt := 18) d_On_kindAbove_7 (by decide) (fun c => ?_) (fun c => ?_)
  · refine r_iconst (pc := 18) (v := (-1)) d_On_kindAbove_18 rfl ?_
    refine r_iret d_On_kindAbove_19 rfl (by omega) (by omega) ?_
    exact ⟨by rw [qkabove, if_neg (qwithin_n c)], rfl, rfl, rfl⟩
  · have hk : 0 ≤ k ∧ k ≤ 6 := qwithin_y c
    have hin : vp_in k 7 := by
      rw [vp_in_iff]
      have h1 := Int32.le_iff_toInt_le.mp hk.1
      have h2 := Int32.le_iff_toInt_le.mp hk.2
      simp at h1 h2
      omega
    refine r_above (pc := 10) fl_On_271 d_On_kindAbove_10 ?_
    refine ldi_n_1_0 (pc := 13) d_On_kindAbove_13 ?_
    refine r_iald0 (pc := 14) d_On_kindAbove_14 (by first | assumption | exact vp_in_nI (by omega) (by omega) | (unfold vp_in; decide)) ?_
    refine r_goto (pc := 15) (tgt := 19) d_On_kindAbove_15 (by decide) ?_
    refine r_iret d_On_kindAbove_19 rfl (by omega) (by omega) ?_
    exact ⟨by rw [qkabove, if_pos hk], rfl, rfl, rfl⟩
end QCON
section QMG
variable {E : qE} {S : qSh} {I : qI} {J : qJ}
/-- the first place below n where f is x -/
def qplace (f : Nat → Int32) (x : Int32) (n : Nat) : Nat → Int32
  | 0 => -5
  | j + 1 => if f (n - (j + 1)) = x then nI (n - (j + 1)) else qplace f x n j
theorem c_Mg_placeOf {o i n : Nat} {x : Int32} (hM : isMg S o i) (hn : I o 3 = nI n) (h6 : n ≤ 6) : qMet E y_Mg_placeOf b_Mg_placeOf 3 (some .int) 0 0 0 [.ref (qb E + o), .int x] S I J (qPi S I J (qplace (I (o + 2)) x n n)) := by
  obtain ⟨hT, -, hA2, -, hR2, -⟩ := hM
  refine qMet.of (L := [some (.ref (qb E + o)), some (.int x), none]) (by decide +kernel) (Nat.le_of_ble_eq_true rfl) rfl ?_
  refine r_iconst (pc := 0) (v := 0) d_Mg_placeOf_0 rfl ?_
  refine sti_n_3_2 (pc := 1) d_Mg_placeOf_1 rfl ?_
  rw [q0]
  have key := qfor (P := fun k => qW E y_Mg_placeOf b_Mg_placeOf (some .int) 0 0 0 (qPi S I J (qplace (I (o + 2)) x n (n - k))) 0 0 2 [some (.ref (qb E + o)), some (.int x), some (.int (nI k))] [] S I J) n ?_ ?_ 0 (Nat.zero_le n)
  · simpa using key
  · refine ldi_n_3_2 (pc := 2) d_Mg_placeOf_2 ?_
    refine lda_n_3_0 (pc := 3) d_Mg_placeOf_3 ?_
    refine g_Mg_49 (pc := 4) rfl d_Mg_placeOf_4 (by assumption) ?_
    rw [hn]
    refine r_icmp_ge (pc := 7) (tgt := 28) d_Mg_placeOf_7 (by decide) (fun c => ?_) (fun c => ?_)
    · refine r_bipush (pc := 28) (v := (-5)) d_Mg_placeOf_28 rfl ?_
      refine r_iret d_Mg_placeOf_30 rfl (by omega) (by omega) ?_
      simp [qPi, qplace]
    · exact absurd (nI_le (Nat.le_refl n) (by omega)) c
  · intro k hk ih
    refine ldi_n_3_2 (pc := 2) d_Mg_placeOf_2 ?_
    refine lda_n_3_0 (pc := 3) d_Mg_placeOf_3 ?_
    refine g_Mg_49 (pc := 4) rfl d_Mg_placeOf_4 (by assumption) ?_
    rw [hn]
    refine r_icmp_ge (pc := 7) (tgt := 28) d_Mg_placeOf_7 (by decide) (fun c => ?_) (fun c => ?_)
    · exact absurd c (nI_ge hk (by omega))
    · have e : n - k = (n - (k + 1)) + 1 := by omega
      refine lda_n_3_0 (pc := 10) d_Mg_placeOf_10 ?_
      refine g_Mg_17 (pc := 11) rfl d_Mg_placeOf_11 (by assumption) (by assumption) ?_
      refine ldi_n_3_2 (pc := 14) d_Mg_placeOf_14 ?_
      refine r_iald (pc := 15) d_Mg_placeOf_15 (by assumption) (by first | assumption | exact vp_in_nI (by omega) (by omega) | (unfold vp_in; decide)) ?_
      refine ldi_n_3_1 (pc := 16) d_Mg_placeOf_16 ?_
      rw [qcl (by omega)]
      refine r_icmp_ne (pc := 17) (tgt := 22) d_Mg_placeOf_17 (by decide) (fun c2 => ?_) (fun c2 => ?_)
      · refine inc_3_2 (pc := 22) (w := 1) d_Mg_placeOf_22 rfl rfl ?_
        refine r_goto (pc := 25) (tgt := 2) d_Mg_placeOf_25 (by decide) ?_
        rw [q1]
        have e2 : qplace (I (o + 2)) x n (n - k) = qplace (I (o + 2)) x n (n - (k + 1)) := by
          rw [e, qplace, show n - (n - (k + 1) + 1) = k by omega, if_neg c2]
        rw [e2]
        exact ih
      · refine ldi_n_3_2 (pc := 20) d_Mg_placeOf_20 ?_
        refine r_iret d_Mg_placeOf_21 rfl (by omega) (by omega) ?_
        exact ⟨by rw [e, qplace, show n - (n - (k + 1) + 1) = k by omega, if_pos c2], rfl, rfl, rfl⟩
end QMG
