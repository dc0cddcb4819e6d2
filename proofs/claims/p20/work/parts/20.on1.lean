/-! the constructors -/
theorem qAr.push {S : qSh} {o k n k2 n2 : Nat} (h : qAr S o k n) : qAr (qpush S k2 n2) o k n := ⟨Nat.lt_succ_of_lt h.1, by have := h.1; unfold qpush qK; simp only; rw [if_neg (by omega)]; exact h.2.1, by have := h.1; unfold qpush qL; simp only; rw [if_neg (by omega)]; exact h.2.2⟩
theorem qR_push {S : qSh} {o j k n : Nat} (h : o < qN S) : qR (qpush S k n) o j = qR S o j := by
  have e : qR (qpush S k n) = fun a => if a = qN S then (fun _ => none) else qR S a := rfl
  rw [e]
  show (if o = qN S then (fun _ => none) else qR S o) j = _
  rw [if_neg (by omega)]
theorem qR_set {S : qSh} {o j a p : Nat} {x : Option Nat} (h : o ≠ a) : qR (qsetR S a p x) o j = qR S o j := qup_o h
def qNoS (S : qSh) (o n : Nat) : qSh := qal (qal (qal S o 0 11 n) o 1 11 n) o 2 11 n
def qMgN (S : qSh) (o j n : Nat) : qSh := qsetR (qNoS (qpush S 4 0) (qN S) n) o j (some (qN S))
def qMgM (S : qSh) (a p : Nat) : qSh := qsetR (qal (qpush S 2 0) (qN S) 7 11 4) a p (some (qN S))
def qMgL (S : qSh) (a : Nat) : Nat → qSh
  | 0 => S
  | k + 1 => qMgM (qMgL S a k) a k
def qMgJ (S : qSh) (a : Nat) (I : qI) : Nat → qI
  | 0 => I
  | k + 1 => qup (qMgJ S a I k) (qN (qMgL S a k)) 0 (nI k)
def qMg2 (S : qSh) (o : Nat) : qSh := qal (qal S o 0 14 6) o 2 11 6
def qMg5 (S : qSh) (o i : Nat) : qSh := qsetR (qMgN (qMgN (qMgN (qMg2 S o) o 6 5) o 7 10) o 8 8) o 5 (some i)
def qMgS (S : qSh) (o i : Nat) : qSh := qMgL (qMg5 S o i) (qN S) 6
def qMgI (S : qSh) (o i : Nat) (I : qI) : qI := qMgJ (qMg5 S o i) (qN S) I 6
section ON1
variable {S : qSh} {I : qI} {J : qJ} {a o j k n p : Nat}
theorem qT.mgM (h : qT S o k) : qT (qMgM S a p) o k := (qT.push (k2 := 2) (n := 0) h).push (k2 := 11) (n := 4)
theorem qAr.mgM (h : qAr S o k n) : qAr (qMgM S a p) o k n := (qAr.push (k2 := 2) (n2 := 0) h).push (k2 := 11) (n2 := 4)
theorem qR_mgM (h : o < qN S) (ho : o ≠ a) : qR (qMgM S a p) o j = qR S o j := by
  unfold qMgM qal
  rw [qR_set ho, qR_set (by omega), qR_push (by show o < qN S + 1; omega), qR_push h]
theorem qN_mgM : qN (qMgM S a p) = qN S + 2 := rfl
theorem qN_mgL : qN (qMgL S a k) = qN S + 2 * k := by
  induction k with
  | zero => rfl
  | succ k ih => rw [qMgL, qN_mgM, ih]; omega
theorem qT.mgL (h : qT S o k) : qT (qMgL S a n) o k := by
  induction n with
  | zero => exact h
  | succ n ih => exact ih.mgM
theorem qAr.mgL {p : Nat} (h : qAr S o k n) : qAr (qMgL S a p) o k n := by
  induction p with
  | zero => exact h
  | succ n ih => exact ih.mgM
theorem qR_mgL (h : o < qN S) (ho : o ≠ a) : qR (qMgL S a n) o j = qR S o j := by
  induction n with
  | zero => rfl
  | succ n ih => rw [qMgL, qR_mgM (by rw [qN_mgL]; omega) ho, ih]
theorem qZ.mgL (h : qZ S I J) : qZ (qMgL S a k) (qMgJ S a I k) J := by
  induction k with
  | zero => exact h
  | succ k ih =>
    have h2 : qZ (qMgL S a (k + 1)) (qMgJ S a I k) J := ih.push (k := 2) (n := 0) |>.push (k := 11) (n := 4)
    exact h2.up (by rw [qN_mgL, qN_mgL]; omega)
theorem qT.mgN (h : qT S o k) : qT (qMgN S a j n) o k := (((qT.push (k2 := 4) (n := 0) h).push (k2 := 11) (n := n)).push (k2 := 11) (n := n)).push (k2 := 11) (n := n)
theorem qAr.mgN {n2 : Nat} (h : qAr S o k n) : qAr (qMgN S a j n2) o k n := (((qAr.push (k2 := 4) (n2 := 0) h).push (k2 := 11) (n2 := n2)).push (k2 := 11) (n2 := n2)).push (k2 := 11) (n2 := n2)
theorem qZ.mgN (h : qZ S I J) : qZ (qMgN S a j n) I J := (((qZ.push (k := 4) (n := 0) h).push (k := 11) (n := n)).push (k := 11) (n := n)).push (k := 11) (n := n)
theorem qN_mgN : qN (qMgN S a j n) = qN S + 4 := rfl
theorem qR_mgN {j2 : Nat} (h : o < qN S) (hj : o ≠ a ∨ j2 ≠ j) : qR (qMgN S a j n) o j2 = qR S o j2 := by
  unfold qMgN qNoS qal
  have e : ∀ (S : qSh) x, qR (qsetR S a j x) o j2 = qR S o j2 := fun S x => by
    rcases hj with q | q
    · exact qup_o q
    · exact qup_j q
  rw [e, qR_set (by omega), qR_push (by show o < qN S + 1 + 1 + 1; omega), qR_set (by omega), qR_push (by show o < qN S + 1 + 1; omega), qR_set (by omega), qR_push (by show o < qN S + 1; omega), qR_push h]
end ON1
section ON1b
variable {E : qE} {S : qSh} {I : qI} {J : qJ}
theorem c_Re_init {o : Nat} (hT : qT S o 5) (hz : qZ S I J) : qMet E y_Re_init b_Re_init 1 none 1 1 100 [.ref (qb E + o)] S I J (fun v S' I' J' => v = none ∧ S' = qal S o 0 10 100 ∧ I = I' ∧ J = J') := by
  refine qMet.of (L := [some (.ref (qb E + o))]) (by decide +kernel) (Nat.le_of_ble_eq_true rfl) rfl ?_
  refine lda_n_1_0 (pc := 0) d_Re_init_0 ?_
  refine r_objInit (pc := 1) ml_Re_3 im_objInit cw_objInit d_Re_init_1 (by omega) (Nat.le_of_ble_eq_true rfl) ?_
  refine lda_n_1_0 (pc := 4) d_Re_init_4 ?_
  refine r_bipush (pc := 5) (v := 100) d_Re_init_5 rfl ?_
  refine r_newaG (pc := 7) (k := 10) (n' := 100) (by decide) (by decide) rfl d_Re_init_7 ac_byte (by decide) rfl (by decide) (by omega) (by omega) ?_
  rw [hz.i, hz.j]
  have hT := hT.push (k2 := 10) (n := 100)
  refine p_Re_9 (pc := 9) rfl rfl d_Re_init_9 (by assumption) ?_
  exact r_vret d_Re_init_12 rfl (by omega) (by omega) (⟨rfl, rfl, rfl, rfl⟩)
theorem c_Mg_init {o i : Nat} (hT : qT S o 3) (hz : qZ S I J) : qMet E y_Mg_init b_Mg_init 3 none 2 26 165 [.ref (qb E + o), .ref (qb E + i)] S I J (fun v S' I' J' => v = none ∧ S' = qMgS S o i ∧ I' = qMgI S o i I ∧ J = J' ∧ qZ S' I' J) := by
  have hoN := hT.1
  refine qMet.of (L := [some (.ref (qb E + o)), some (.ref (qb E + i)), none]) (by decide +kernel) (Nat.le_of_ble_eq_true rfl) rfl ?_
  refine lda_n_3_0 (pc := 0) d_Mg_init_0 ?_
  refine r_objInit (pc := 1) ml_Mg_3 im_objInit cw_objInit d_Mg_init_1 (by omega) (Nat.le_of_ble_eq_true rfl) ?_
  refine lda_n_3_0 (pc := 4) d_Mg_init_4 ?_
  refine r_bipush (pc := 5) (v := 6) d_Mg_init_5 rfl ?_
  refine r_anewG (pc := 7) (k := 14) (n' := 6) (Or.inl rfl) rfl (fun s K => K.2.2.2.2.2.2.2.1.1) d_Mg_init_7 ck_Mg_9 (by decide) rfl (by decide) (by omega) (by omega) ?_
  rw [hz.i, hz.j]
  have hT0 := hT.push (k2 := 14) (n := 6)
  refine p_Mg_11 (pc := 10) rfl rfl d_Mg_init_10 (by assumption) ?_
  change qW _ _ _ _ _ _ _ _ _ _ _ _ _ (qal S o 0 14 6) _ _
  have hz1 := hz.al (o := o) (j := 0) (k := 14) (n := 6)
  have hT1 : qT (qal S o 0 14 6) o 3 := hT0
  refine lda_n_3_0 (pc := 13) d_Mg_init_13 ?_
  refine r_bipush (pc := 14) (v := 6) d_Mg_init_14 rfl ?_
  refine r_newaG (pc := 16) (k := 11) (n' := 6) (by decide) (by decide) rfl d_Mg_init_16 ac_int (by decide) rfl (by decide) (by omega) (by omega) ?_
  rw [hz1.i, hz1.j]
  have hT2 := hT1.push (k2 := 11) (n := 6)
  refine p_Mg_17 (pc := 18) rfl rfl d_Mg_init_18 (by assumption) ?_
  change qW _ _ _ _ _ _ _ _ _ _ _ _ _ (qMg2 S o) _ _
  have hz2 : qZ (qMg2 S o) I J := hz1.al (o := o) (j := 2) (k := 11) (n := 6)
  have hT3 : qT (qMg2 S o) o 3 := hT2
  have hA3 : qAr (qMg2 S o) (qN S) 14 6 := (qAr.new (S := S) (k := 14) (n := 6)).push (k2 := 11) (n2 := 6)
  have hR3 : qR (qMg2 S o) o 0 = some (qN S) := by
    show qR (qsetR (qpush (qal S o 0 14 6) 11 6) o 2 _) o 0 = _
    have e : qR (qsetR (qpush (qal S o 0 14 6) 11 6) o 2 (some (qN (qal S o 0 14 6)))) o 0 = qR (qpush (qal S o 0 14 6) 11 6) o 0 := qup_j (by decide)
    rw [e, qR_push (by show o < qN S + 1; omega)]
    exact qup_at
  have hN3 : qN (qMg2 S o) = qN S + 2 := rfl
  generalize hS3 : qMg2 S o = S3 at *
  refine lda_n_3_0 (pc := 21) d_Mg_init_21 ?_
  refine r_newG (pc := 22) (k := 4) (N := 4) (C := "OneMourner$Notes") (T := T_No) rfl (by decide) la_No ty_No_ok rfl (by decide +kernel) ck_Mg_21 ia_No ii_No d_Mg_init_22 (by omega) (by omega) ?_
  refine r_dup (pc := 25) d_Mg_init_25 rfl ?_
  refine r_iconst (pc := 26) (v := 5) d_Mg_init_26 rfl ?_
  rw [hz2.i, hz2.j]
  have hT4 : qT (qpush S3 4 0) (qN S3) 4 := qT.new
  rw [show (5 : Int32) = nI 5 from rfl]
  refine r_callIN (pc := 27) (As := [.int (nI 5)]) k_Mg_23 im_No_init rfl rfl (by decide) d_Mg_init_27 (c_No_init (n := 5) (by decide) hT4 hz2.push) rfl (Nat.le_of_ble_eq_true rfl) (by omega) (by omega) (by omega) (fun v S' I' J' hq => ?_)
  obtain ⟨rfl, rfl, rfl, rfl⟩ := hq
  have hT5 : qT (qal (qal (qal (qpush S3 4 0) (qN S3) 0 11 5) (qN S3) 1 11 5) (qN S3) 2 11 5) o 3 := hT3.mgN (a := o) (j := 6) (n := 5)
  refine p_Mg_26 (pc := 30) rfl rfl d_Mg_init_30 (by assumption) ?_
  change qW _ _ _ _ _ _ _ _ _ _ _ _ _ (qMgN S3 o 6 5) _ _
  have hz4 : qZ (qMgN S3 o 6 5) I J := hz2.mgN
  have hT6 : qT (qMgN S3 o 6 5) o 3 := hT3.mgN
  have hA4 : qAr (qMgN S3 o 6 5) (qN S) 14 6 := hA3.mgN
  have hR4 : qR (qMgN S3 o 6 5) o 0 = some (qN S) := by rw [qR_mgN (by omega) (Or.inr (by decide))]; exact hR3
  have hN4 : qN (qMgN S3 o 6 5) = qN S + 6 := by rw [qN_mgN, hN3]
  generalize hS4 : qMgN S3 o 6 5 = S4 at *
  refine lda_n_3_0 (pc := 33) d_Mg_init_33 ?_
  refine r_newG (pc := 34) (k := 4) (N := 4) (C := "OneMourner$Notes") (T := T_No) rfl (by decide) la_No ty_No_ok rfl (by decide +kernel) ck_Mg_21 ia_No ii_No d_Mg_init_34 (by omega) (by omega) ?_
  refine r_dup (pc := 37) d_Mg_init_37 rfl ?_
  refine r_bipush (pc := 38) (v := 10) d_Mg_init_38 rfl ?_
  rw [hz4.i, hz4.j]
  have hT7 : qT (qpush S4 4 0) (qN S4) 4 := qT.new
  rw [show (10 : Int32) = nI 10 from rfl]
  refine r_callIN (pc := 40) (As := [.int (nI 10)]) k_Mg_23 im_No_init rfl rfl (by decide) d_Mg_init_40 (c_No_init (n := 10) (by decide) hT7 hz4.push) rfl (Nat.le_of_ble_eq_true rfl) (by omega) (by omega) (by omega) (fun v S' I' J' hq => ?_)
  obtain ⟨rfl, rfl, rfl, rfl⟩ := hq
  have hT8 : qT (qal (qal (qal (qpush S4 4 0) (qN S4) 0 11 10) (qN S4) 1 11 10) (qN S4) 2 11 10) o 3 := hT6.mgN (a := o) (j := 7) (n := 10)
  refine p_Mg_30 (pc := 43) rfl rfl d_Mg_init_43 (by assumption) ?_
  change qW _ _ _ _ _ _ _ _ _ _ _ _ _ (qMgN S4 o 7 10) _ _
  have hz5 : qZ (qMgN S4 o 7 10) I J := hz4.mgN
  have hT9 : qT (qMgN S4 o 7 10) o 3 := hT6.mgN
  have hA5 : qAr (qMgN S4 o 7 10) (qN S) 14 6 := hA4.mgN
  have hR5 : qR (qMgN S4 o 7 10) o 0 = some (qN S) := by rw [qR_mgN (by omega) (Or.inr (by decide))]; exact hR4
  have hN5 : qN (qMgN S4 o 7 10) = qN S + 10 := by rw [qN_mgN, hN4]
  generalize hS5 : qMgN S4 o 7 10 = S5 at *
  refine lda_n_3_0 (pc := 46) d_Mg_init_46 ?_
  refine r_newG (pc := 47) (k := 4) (N := 4) (C := "OneMourner$Notes") (T := T_No) rfl (by decide) la_No ty_No_ok rfl (by decide +kernel) ck_Mg_21 ia_No ii_No d_Mg_init_47 (by omega) (by omega) ?_
  refine r_dup (pc := 50) d_Mg_init_50 rfl ?_
  refine r_bipush (pc := 51) (v := 8) d_Mg_init_51 rfl ?_
  rw [hz5.i, hz5.j]
  have hT10 : qT (qpush S5 4 0) (qN S5) 4 := qT.new
  rw [show (8 : Int32) = nI 8 from rfl]
  refine r_callIN (pc := 53) (As := [.int (nI 8)]) k_Mg_23 im_No_init rfl rfl (by decide) d_Mg_init_53 (c_No_init (n := 8) (by decide) hT10 hz5.push) rfl (Nat.le_of_ble_eq_true rfl) (by omega) (by omega) (by omega) (fun v S' I' J' hq => ?_)
  obtain ⟨rfl, rfl, rfl, rfl⟩ := hq
  have hT11 : qT (qal (qal (qal (qpush S5 4 0) (qN S5) 0 11 8) (qN S5) 1 11 8) (qN S5) 2 11 8) o 3 := hT9.mgN (a := o) (j := 8) (n := 8)
  refine p_Mg_33 (pc := 56) rfl rfl d_Mg_init_56 (by assumption) ?_
  change qW _ _ _ _ _ _ _ _ _ _ _ _ _ (qMgN S5 o 8 8) _ _
  have hT12 : qT (qMgN S5 o 8 8) o 3 := hT9.mgN
  refine lda_n_3_0 (pc := 59) d_Mg_init_59 ?_
  refine lda_n_3_1 (pc := 60) d_Mg_init_60 ?_
  refine p_Mg_36 (pc := 61) rfl d_Mg_init_61 (by assumption) ?_
  have hz6 : qZ (qsetR (qMgN S5 o 8 8) o 5 (some i)) I J := hz5.mgN (a := o) (j := 8) (n := 8)
  have hT13 : qT (qsetR (qMgN S5 o 8 8) o 5 (some i)) o 3 := hT12
  have hA6 : qAr (qsetR (qMgN S5 o 8 8) o 5 (some i)) (qN S) 14 6 := hA5.mgN (a := o) (j := 8) (n2 := 8)
  have hR6 : qR (qsetR (qMgN S5 o 8 8) o 5 (some i)) o 0 = some (qN S) := by
    have e : qR (qsetR (qMgN S5 o 8 8) o 5 (some i)) o 0 = qR (qMgN S5 o 8 8) o 0 := qup_j (by decide)
    rw [e, qR_mgN (by omega) (Or.inr (by decide))]; exact hR5
  have hN6 : qN (qsetR (qMgN S5 o 8 8) o 5 (some i)) = qN S + 14 := by show qN (qMgN S5 o 8 8) = _; rw [qN_mgN, hN5]
  have hS6 : qMg5 S o i = qsetR (qMgN S5 o 8 8) o 5 (some i) := by rw [← hS5, ← hS4, ← hS3]; rfl
  rw [← hS6] at hz6 hT13 hA6 hR6 hN6 ⊢
  unfold qMgS qMgI
  generalize qMg5 S o i = S6 at *
  refine r_iconst (pc := 64) (v := 0) d_Mg_init_64 rfl ?_
  refine sti_n_3_2 (pc := 65) d_Mg_init_65 rfl ?_
  rw [q0]
  have key : ∀ k, k ≤ 6 → qW E y_Mg_init b_Mg_init none 2 26 165 (fun v S' I' J' => v = none ∧ S' = qMgL S6 (qN S) 6 ∧ I' = qMgJ S6 (qN S) I 6 ∧ J = J' ∧ qZ S' I' J) (14 + 2 * k) (93 + 12 * k) 66 [some (.ref (qb E + o)), some (.ref (qb E + i)), some (.int (nI k))] [] (qMgL S6 (qN S) k) (qMgJ S6 (qN S) I k) J := by
    refine qfor 6 ?_ ?_
    · refine ldi_n_3_2 (pc := 66) d_Mg_init_66 ?_
      refine r_bipush (pc := 67) (v := 6) d_Mg_init_67 rfl ?_
      refine r_icmp_ge (pc := 69) (tgt := 92) d_Mg_init_69 (by decide) (fun c => ?_) (fun c => ?_)
      · exact r_vret d_Mg_init_92 rfl (by omega) (by omega) (⟨rfl, rfl, rfl, rfl, hz6.mgL⟩)
      · exact absurd (show nI 6 ≤ nI 6 from by decide) c
    · intro k hk ih
      refine ldi_n_3_2 (pc := 66) d_Mg_init_66 ?_
      refine r_bipush (pc := 67) (v := 6) d_Mg_init_67 rfl ?_
      refine r_icmp_ge (pc := 69) (tgt := 92) d_Mg_init_69 (by decide) (fun c => ?_) (fun c => ?_)
      · exact absurd (show nI 6 ≤ nI k from c) (nI_ge hk (by omega))
      · have t1 : qT (qMgL S6 (qN S) k) o 3 := hT13.mgL
        have t2 : qAr (qMgL S6 (qN S) k) (qN S) 14 6 := hA6.mgL
        have t3 : qR (qMgL S6 (qN S) k) o 0 = some (qN S) := by rw [qR_mgL (by omega) (by omega)]; exact hR6
        have t4 : qZ (qMgL S6 (qN S) k) (qMgJ S6 (qN S) I k) J := hz6.mgL
        refine lda_n_3_0 (pc := 72) d_Mg_init_72 ?_
        refine g_Mg_11 (pc := 73) rfl d_Mg_init_73 (by assumption) (by assumption) ?_
        refine ldi_n_3_2 (pc := 76) d_Mg_init_76 ?_
        refine r_newG (pc := 77) (k := 2) (N := 8) (C := "OneMourner$Mourner") (T := T_Mo) rfl (by decide) la_Mo ty_Mo_ok rfl (by decide +kernel) ck_Mg_9 ia_Mo ii_Mo d_Mg_init_77 (by omega) (by omega) ?_
        refine r_dup (pc := 80) d_Mg_init_80 rfl ?_
        refine ldi_n_3_2 (pc := 81) d_Mg_init_81 ?_
        rw [t4.i, t4.j]
        have t5 : qT (qpush (qMgL S6 (qN S) k) 2 0) (qN (qMgL S6 (qN S) k)) 2 := qT.new
        refine r_callIN (pc := 82) (As := [.int (nI k)]) k_Mg_40 im_Mo_init rfl rfl (by decide) d_Mg_init_82 (c_Mo_init t5 t4.push) rfl (Nat.le_of_ble_eq_true rfl) (by omega) (by omega) (by omega) (fun v S' I' J' hq => ?_)
        obtain ⟨rfl, rfl, rfl, rfl⟩ := hq
        have t6 : qT (qal (qpush (qMgL S6 (qN S) k) 2 0) (qN (qMgL S6 (qN S) k)) 7 11 4) (qN (qMgL S6 (qN S) k)) 2 := t5.push (k2 := 11) (n := 4)
        have t7 : qAr (qal (qpush (qMgL S6 (qN S) k) 2 0) (qN (qMgL S6 (qN S) k)) 7 11 4) (qN S) 14 6 := (t2.push (k2 := 2) (n2 := 0)).push (k2 := 11) (n2 := 4)
        have hin : vp_in (nI k) 6 := vp_in_nI hk (by omega)
        refine r_aastG (pc := 85) (k := 14) (k2 := 2) (Or.inl rfl) rfl rfl (by decide) d_Mg_init_85 (by assumption) (by assumption) (by first | assumption | exact vp_in_nI (by omega) (by omega) | (unfold vp_in; decide)) ?_
        refine inc_3_2 (pc := 86) (w := 1) d_Mg_init_86 rfl rfl ?_
        refine r_goto (pc := 89) (tgt := 66) d_Mg_init_89 (by decide) ?_
        rw [qcl (by omega), q1]
        exact ih
  exact key 0 (by omega)
end ON1b
