/-! the reference's reader: numbers, tests, words -/
def pall (f : Nat → Int32) (n : Nat) : List Int32 → pSt → Bool × pSt
  | [], s => (true, s)
  | c :: l, s => if s.1 < n ∧ f s.1 = c then pall f n l (s.1 + 1, s.2) else (false, s)
theorem pall_len {f : Nat → Int32} {n : Nat} : ∀ (l : List Int32) (s : pSt), (pall f n l s).2.2 = s.2 ∧ s.1 ≤ (pall f n l s).2.1 := by
  intro l
  induction l with
  | nil => intro s; exact ⟨rfl, Nat.le_refl _⟩
  | cons c l ih =>
    intro s
    rw [pall]
    split
    · have := ih (s.1 + 1, s.2)
      exact ⟨this.1, Nat.le_of_succ_le this.2⟩
    · exact ⟨rfl, Nat.le_refl _⟩
section G18
variable {E : qE} {S : qSh} {I0 I : qI} {J : qJ} {f : Nat → Int32} {n cz op : Nat} {s : pSt}
theorem c_Md_isNumber (hM : isMd S) (hx : pTx I0 f n) (h : pRd I0 n cz op s I) : qMet E y_Md_isNumber b_Md_isNumber 1 (some .boolean) 1 0 0 [.ref (qb E + 114)] S I J (fun v S' I' J' => v = some (.int (if (pnumL f n 2 0 0 s.1).2.1 = 0 then 0 else 1)) ∧ S = S' ∧ (pRd I0 n cz op ((pnumL f n 2 0 0 s.1).2.2, s.2) I' ∧ I' 114 14 = (pnumL f n 2 0 0 s.1).1) ∧ J = J') := by
  have hT := hM.1
  have f12 := hM.r 8 rfl
  have g12 := hM.a 8 rfl
  have hx0 := hx
  obtain ⟨x1, x2, x3⟩ := hx
  refine qMet.of (L := [some (.ref (qb E + 114))]) (by decide +kernel) (Nat.le_of_ble_eq_true rfl) rfl ?_
  generalize hend : pnumL f n 2 0 0 s.1 = rr
  refine lda_n_1_0 (pc := 0) d_Md_isNumber_0 ?_
  refine r_iconst (pc := 1) (v := 0) d_Md_isNumber_1 rfl ?_
  refine p_Md_149 (pc := 2) rfl d_Md_isNumber_2 (by assumption) ?_
  refine lda_n_1_0 (pc := 5) d_Md_isNumber_5 ?_
  refine r_iconst (pc := 6) (v := 0) d_Md_isNumber_6 rfl ?_
  refine p_Md_152 (pc := 7) rfl d_Md_isNumber_7 (by assumption) ?_
  have fin : ∀ (K : qI) (v : Int32) (k a : Nat), k ≤ 2 → pRd I0 n cz op (a, s.2) K → K 114 14 = v → K 114 15 = nI k → (v, k, a) = rr → qW E y_Md_isNumber b_Md_isNumber (some .boolean) 1 0 0 (fun v S' I' J' => v = some (.int (if rr.2.1 = 0 then 0 else 1)) ∧ S = S' ∧ (pRd I0 n cz op (rr.2.2, s.2) I' ∧ I' 114 14 = rr.1) ∧ J = J') 0 0 72 [some (.ref (qb E + 114))] [] S K J := by
    intro K v k a hk hK e14 e15 e
    subst e
    refine lda_n_1_0 (pc := 72) d_Md_isNumber_72 ?_
    refine g_Md_152 (pc := 73) rfl d_Md_isNumber_73 (by assumption) ?_
    rw [e15]
    refine r_if_le (pc := 76) (tgt := 83) d_Md_isNumber_76 (by decide) (fun c => ?_) (fun c => ?_)
    · have hk0 : k = 0 := by
        rcases Nat.eq_zero_or_pos k with q | q
        · exact q
        · exact absurd c (nI_nle q (by omega))
      refine r_iconst (pc := 83) (v := 0) d_Md_isNumber_83 rfl ?_
      rw [if_pos hk0]
      exact r_nret d_Md_isNumber_84 rfl (qbool_n (by first | exact Or.inl rfl | exact Or.inr rfl | assumption | exact qwithin_b | exact qbit_b)) (by omega) (by omega) (⟨rfl, rfl, ⟨hK, e14⟩, rfl⟩)
    · have hk0 : ¬ k = 0 := fun q => c (by rw [q]; decide)
      refine r_iconst (pc := 79) (v := 1) d_Md_isNumber_79 rfl ?_
      refine r_goto (pc := 80) (tgt := 84) d_Md_isNumber_80 (by decide) ?_
      rw [if_neg hk0]
      exact r_nret d_Md_isNumber_84 rfl (qbool_n (by first | exact Or.inl rfl | exact Or.inr rfl | assumption | exact qwithin_b | exact qbit_b)) (by omega) (by omega) (⟨rfl, rfl, ⟨hK, e14⟩, rfl⟩)
  have key : ∀ (m : Nat) (K : qI) (v : Int32) (k a : Nat), m + k = 2 → pRd I0 n cz op (a, s.2) K → K 114 14 = v → K 114 15 = nI k → pnumL f n m v k a = rr → qW E y_Md_isNumber b_Md_isNumber (some .boolean) 1 0 0 (fun v S' I' J' => v = some (.int (if rr.2.1 = 0 then 0 else 1)) ∧ S = S' ∧ (pRd I0 n cz op (rr.2.2, s.2) I' ∧ I' 114 14 = rr.1) ∧ J = J') 0 0 10 [some (.ref (qb E + 114))] [] S K J := by
    intro m
    induction m with
    | zero =>
      intro K v k a hmk hK e14 e15 e
      have hk : k = 2 := by omega
      refine lda_n_1_0 (pc := 10) d_Md_isNumber_10 ?_
      refine g_Md_152 (pc := 11) rfl d_Md_isNumber_11 (by assumption) ?_
      refine r_iconst (pc := 14) (v := 2) d_Md_isNumber_14 rfl ?_
      rw [e15, hk]
      refine r_icmp_ge (pc := 15) (tgt := 72) d_Md_isNumber_15 (by decide) (fun c => ?_) (fun c => ?_)
      · exact fin K v k a (by omega) hK e14 e15 e
      · exact absurd (by decide) c
    | succ m ih =>
      intro K v k a hmk hK e14 e15 e
      rw [pnumL] at e
      refine lda_n_1_0 (pc := 10) d_Md_isNumber_10 ?_
      refine g_Md_152 (pc := 11) rfl d_Md_isNumber_11 (by assumption) ?_
      refine r_iconst (pc := 14) (v := 2) d_Md_isNumber_14 rfl ?_
      rw [e15]
      refine r_icmp_ge (pc := 15) (tgt := 72) d_Md_isNumber_15 (by decide) (fun c => ?_) (fun c => ?_)
      · exact absurd (show nI 2 ≤ nI k from c) (nI_ge (by omega) (by omega))
      · refine lda_n_1_0 (pc := 18) d_Md_isNumber_18 ?_
        refine r_callV (pc := 19) (As := []) (k := 9) (N := 56) (T := T_Md) k_Md_155 im_Md_isDigit se_Md_isDigit rfl (by decide) rfl (by decide) d_Md_isNumber_19 (by assumption) (c_Md_isDigit hM hx0 hK) rfl (Nat.le_of_ble_eq_true rfl) (by omega) (by omega) (by omega) (fun v S' I' J' hq => ?_)
        obtain ⟨rfl, rfl, rfl, rfl⟩ := hq
        by_cases hd : a < n ∧ 48 ≤ f a ∧ f a ≤ 57
        · rw [if_pos hd] at e
          rw [if_pos (show (a, s.2).1 < n ∧ 48 ≤ f (a, s.2).1 ∧ f (a, s.2).1 ≤ 57 from hd)]
          refine r_if_eq (pc := 22) (tgt := 72) d_Md_isNumber_22 (by decide) (fun c2 => ?_) (fun c2 => ?_)
          · exact absurd c2 (by decide)
          · have hK3 := hK.2.2.1
            have hlt := hd.1
            have e123 : K 123 a = f a := by rw [hK.1 123 (by decide) (by decide)]; exact (x3 _ hlt).1
            refine lda_n_1_0 (pc := 25) d_Md_isNumber_25 ?_
            refine r_bipush (pc := 26) (v := 10) d_Md_isNumber_26 rfl ?_
            refine lda_n_1_0 (pc := 28) d_Md_isNumber_28 ?_
            refine g_Md_149 (pc := 29) rfl d_Md_isNumber_29 (by assumption) ?_
            refine r_imul (pc := 32) d_Md_isNumber_32 ?_
            refine lda_n_1_0 (pc := 33) d_Md_isNumber_33 ?_
            refine g_Md_36 (pc := 34) rfl d_Md_isNumber_34 (by assumption) (by assumption) ?_
            refine lda_n_1_0 (pc := 37) d_Md_isNumber_37 ?_
            refine g_Md_146 (pc := 38) rfl d_Md_isNumber_38 (by assumption) ?_
            rw [hK3]
            refine r_iald (pc := 41) d_Md_isNumber_41 (by assumption) (by first | assumption | exact vp_in_nI (by omega) (by omega) | (unfold vp_in; decide)) ?_
            rw [qcl (n := a) (by omega), e123, e14]
            refine r_iadd (pc := 42) d_Md_isNumber_42 ?_
            refine r_bipush (pc := 43) (v := 48) d_Md_isNumber_43 rfl ?_
            refine r_isub (pc := 45) d_Md_isNumber_45 ?_
            refine p_Md_149 (pc := 46) rfl d_Md_isNumber_46 (by assumption) ?_
            refine lda_n_1_0 (pc := 49) d_Md_isNumber_49 ?_
            refine r_dup (pc := 50) d_Md_isNumber_50 rfl ?_
            refine g_Md_146 (pc := 51) rfl d_Md_isNumber_51 (by assumption) ?_
            refine r_iconst (pc := 54) (v := 1) d_Md_isNumber_54 rfl ?_
            refine r_iadd (pc := 55) d_Md_isNumber_55 ?_
            refine p_Md_146 (pc := 56) rfl d_Md_isNumber_56 (by assumption) ?_
            refine lda_n_1_0 (pc := 59) d_Md_isNumber_59 ?_
            refine r_dup (pc := 60) d_Md_isNumber_60 rfl ?_
            refine g_Md_152 (pc := 61) rfl d_Md_isNumber_61 (by assumption) ?_
            refine r_iconst (pc := 64) (v := 1) d_Md_isNumber_64 rfl ?_
            refine r_iadd (pc := 65) d_Md_isNumber_65 ?_
            refine p_Md_152 (pc := 66) rfl d_Md_isNumber_66 (by assumption) ?_
            refine r_goto (pc := 69) (tgt := 10) d_Md_isNumber_69 (by decide) ?_
            refine ih _ (10 * v + f a - 48) (k + 1) (a + 1) (by omega) ?_ ?_ ?_ e
            · have w := ((hK.free (j0 := 14) (x := 10 * v + f a - 48) (Or.inl rfl)).at hlt).free (j0 := 15) (x := (qup (qup K 114 14 (10 * v + f a - 48)) 114 13 ((qup K 114 14 (10 * v + f a - 48)) 114 13 + 1)) 114 15 + 1) (Or.inr rfl)
              exact w
            · rw [qup_j (by decide), qup_j (by decide), qup_at]
            · rw [qup_at, qup_j (by decide), qup_j (by decide), e15, q1]
        · rw [if_neg hd] at e
          rw [if_neg (show ¬ ((a, s.2).1 < n ∧ 48 ≤ f (a, s.2).1 ∧ f (a, s.2).1 ≤ 57) from hd)]
          refine r_if_eq (pc := 22) (tgt := 72) d_Md_isNumber_22 (by decide) (fun c2 => ?_) (fun c2 => ?_)
          · exact fin K v k a (by omega) hK e14 e15 e
          · exact absurd rfl c2
  refine key 2 _ 0 0 s.1 rfl ?_ ?_ ?_ hend
  · exact (h.free (j0 := 14) (x := 0) (Or.inl rfl)).free (j0 := 15) (x := 0) (Or.inr rfl)
  · rw [qup_j (by decide), qup_at]
  · rw [qup_at]; rfl
theorem plet_lt {i a : Nat} (h : 0 ≤ plet f n i a) : a < n := by
  unfold plet at h
  rcases Nat.lt_or_ge a n with q | q
  · exact q
  · rw [if_neg (fun w => absurd w.1 (by omega))] at h; exact absurd h (by decide)
theorem c_Md_isTest (hM : isMd S) (hx : pTx I0 f n) (h : pRd I0 n cz op s I) (hb : cz + s.2.length < 800) : qMet E y_Md_isTest b_Md_isTest 3 (some .boolean) 4 0 0 [.ref (qb E + 114)] S I J (pQ S J I0 n cz op (ptest f n s)) := by
  have hT := hM.1
  have f12 := hM.r 8 rfl
  have g12 := hM.a 8 rfl
  have hx0 := hx
  obtain ⟨x1, x2, x3⟩ := hx
  have h0 := h
  obtain ⟨h1, h2, h3, h4, h5, h6, h7, h8⟩ := h
  have hn : I 114 11 = nI n := by rw [h2 11 (by decide) (by decide) (by decide) (by decide) (by decide)]; exact x1
  refine qMet.of (L := [some (.ref (qb E + 114)), none, none]) (by decide +kernel) (Nat.le_of_ble_eq_true rfl) rfl ?_
  have k41 : qW E y_Md_isTest b_Md_isTest (some .boolean) 4 0 0 (pQ S J I0 n cz op (ptest f n s)) 0 0 41 [some (.ref (qb E + 114)), none, none] [.int (plet f n 0 s.1)] S I J := by
    refine sti_n_3_1 (pc := 41) d_Md_isTest_41 rfl ?_
    refine ldi_n_3_1 (pc := 42) d_Md_isTest_42 ?_
    refine r_if_ge (pc := 43) (tgt := 48) d_Md_isTest_43 (by decide) (fun c => ?_) (fun c => ?_)
    · have hlt := plet_lt c
      have hge : ¬ plet f n 0 s.1 < 0 := Int32.not_lt.mpr c
      refine lda_n_3_0 (pc := 48) d_Md_isTest_48 ?_
      refine r_dup (pc := 49) d_Md_isTest_49 rfl ?_
      refine g_Md_146 (pc := 50) rfl d_Md_isTest_50 (by assumption) ?_
      refine r_iconst (pc := 53) (v := 1) d_Md_isTest_53 rfl ?_
      refine r_iadd (pc := 54) d_Md_isTest_54 ?_
      refine p_Md_146 (pc := 55) rfl d_Md_isTest_55 (by assumption) ?_
      have w1 := h0.at hlt
      generalize qup I 114 13 (I 114 13 + 1) = K at w1 ⊢
      have w0 := w1
      obtain ⟨a1, a2, a3, a4, a5, a6, a7, a8⟩ := w1
      have an : K 114 11 = nI n := by rw [a2 11 (by decide) (by decide) (by decide) (by decide) (by decide)]; exact x1
      have a3' : K 114 13 = nI (s.1 + 1) := a3
      have a4' : s.1 + 1 ≤ n := a4
      have k99 : qW E y_Md_isTest b_Md_isTest (some .boolean) 4 0 0 (pQ S J I0 n cz op (ptest f n s)) 0 0 99 [some (.ref (qb E + 114)), some (.int (plet f n 0 s.1)), none] [.int (plet f n 6 (s.1 + 1))] S K J := by
        refine sti_n_3_2 (pc := 99) d_Md_isTest_99 rfl ?_
        refine ldi_n_3_2 (pc := 100) d_Md_isTest_100 ?_
        refine r_if_ge (pc := 101) (tgt := 106) d_Md_isTest_101 (by decide) (fun c2 => ?_) (fun c2 => ?_)
        · have hlt2 := plet_lt c2
          have hge2 : ¬ plet f n 6 (s.1 + 1) < 0 := Int32.not_lt.mpr c2
          refine lda_n_3_0 (pc := 106) d_Md_isTest_106 ?_
          refine r_dup (pc := 107) d_Md_isTest_107 rfl ?_
          refine g_Md_146 (pc := 108) rfl d_Md_isTest_108 (by assumption) ?_
          refine r_iconst (pc := 111) (v := 1) d_Md_isTest_111 rfl ?_
          refine r_iadd (pc := 112) d_Md_isTest_112 ?_
          refine p_Md_146 (pc := 113) rfl d_Md_isTest_113 (by assumption) ?_
          have u1 := w0.at hlt2
          generalize qup K 114 13 (K 114 13 + 1) = M at u1 ⊢
          refine lda_n_3_0 (pc := 116) d_Md_isTest_116 ?_
          refine r_callV (pc := 117) (As := []) (k := 9) (N := 56) (T := T_Md) k_Md_181 im_Md_isNumber se_Md_isNumber rfl (by decide) rfl (by decide) d_Md_isTest_117 (by assumption) (c_Md_isNumber hM hx0 u1) rfl (Nat.le_of_ble_eq_true rfl) (by omega) (by omega) (by omega) (fun v S' I' J' hq => ?_)
          obtain ⟨rfl, rfl, ⟨hq1, hq2⟩, rfl⟩ := hq
          have hq3 : I' 114 14 = (pnumL f n 2 0 0 (s.1 + 2)).1 := hq2
          refine r_if_eq (pc := 120) (tgt := 151) d_Md_isTest_120 (by decide) (fun c3 => ?_) (fun c3 => ?_)
          · have e0 : (pnumL f n 2 0 0 (s.1 + 2)).2.1 = 0 := by
              by_cases q : (pnumL f n 2 0 0 (s.1 + 2)).2.1 = 0
              · exact q
              · exact absurd c3 (by rw [if_neg (show ¬ (pnumL f n 2 0 0 (s.1 + 1 + 1)).2.1 = 0 from q)]; decide)
            have ep : ptest f n s = (false, (pnumL f n 2 0 0 (s.1 + 2)).2.2, s.2) := by unfold ptest; rw [if_neg hge, if_neg hge2, if_pos e0]
            rw [ep]
            refine r_iconst (pc := 151) (v := 0) d_Md_isTest_151 rfl ?_
            exact r_nret d_Md_isTest_152 rfl (qbool_n (by first | exact Or.inl rfl | exact Or.inr rfl | assumption | exact qwithin_b | exact qbit_b)) (by omega) (by omega) (⟨rfl, rfl, hq1, rfl⟩)
          · have e0 : ¬ (pnumL f n 2 0 0 (s.1 + 2)).2.1 = 0 := fun q => c3 (by rw [if_pos (show (pnumL f n 2 0 0 (s.1 + 1 + 1)).2.1 = 0 from q)])
            have ep : ptest f n s = (true, (pnumL f n 2 0 0 (s.1 + 2)).2.2, s.2 ++ [3 + 300 * plet f n 0 s.1 + 100 * plet f n 6 (s.1 + 1) + (pnumL f n 2 0 0 (s.1 + 2)).1]) := by unfold ptest; rw [if_neg hge, if_neg hge2, if_neg e0]
            rw [ep]
            refine lda_n_3_0 (pc := 123) d_Md_isTest_123 ?_
            refine r_iconst (pc := 124) (v := 3) d_Md_isTest_124 rfl ?_
            refine r_sipush (pc := 125) (v := 300) d_Md_isTest_125 rfl ?_
            refine ldi_n_3_1 (pc := 128) d_Md_isTest_128 ?_
            refine r_imul (pc := 129) d_Md_isTest_129 ?_
            refine r_iadd (pc := 130) d_Md_isTest_130 ?_
            refine r_bipush (pc := 131) (v := 100) d_Md_isTest_131 rfl ?_
            refine ldi_n_3_2 (pc := 133) d_Md_isTest_133 ?_
            refine r_imul (pc := 134) d_Md_isTest_134 ?_
            refine r_iadd (pc := 135) d_Md_isTest_135 ?_
            refine lda_n_3_0 (pc := 136) d_Md_isTest_136 ?_
            refine g_Md_149 (pc := 137) rfl d_Md_isTest_137 (by assumption) ?_
            refine r_iadd (pc := 140) d_Md_isTest_140 ?_
            rw [hq3]
            refine r_callV (pc := 141) (As := [.int (3 + 300 * plet f n 0 s.1 + 100 * plet f n 6 (s.1 + 1) + (pnumL f n 2 0 0 (s.1 + 2)).1)]) (k := 9) (N := 56) (T := T_Md) k_Md_184 im_Md_codes se_Md_codes rfl (by decide) rfl (by decide) d_Md_isTest_141 (by assumption) (c_Md_codes hM hq1 hb) rfl (Nat.le_of_ble_eq_true rfl) (by omega) (by omega) (by omega) (fun v S' I' J' hq => ?_)
            obtain ⟨rfl, rfl, hr, rfl⟩ := hq
            refine r_if_eq (pc := 144) (tgt := 151) d_Md_isTest_144 (by decide) (fun c4 => ?_) (fun c4 => ?_)
            · exact absurd rfl (pb0 c4)
            · refine r_iconst (pc := 147) (v := 1) d_Md_isTest_147 rfl ?_
              refine r_goto (pc := 148) (tgt := 152) d_Md_isTest_148 (by decide) ?_
              exact r_nret d_Md_isTest_152 rfl (qbool_n (by first | exact Or.inl rfl | exact Or.inr rfl | assumption | exact qwithin_b | exact qbit_b)) (by omega) (by omega) (⟨rfl, rfl, hr, rfl⟩)
        · have hlt2 : plet f n 6 (s.1 + 1) < 0 := Int32.not_le.mp c2
          have ep : ptest f n s = (false, s.1 + 1, s.2) := by unfold ptest; rw [if_neg hge, if_pos hlt2]
          rw [ep]
          refine r_iconst (pc := 104) (v := 0) d_Md_isTest_104 rfl ?_
          exact r_nret d_Md_isTest_105 rfl (qbool_n (by first | exact Or.inl rfl | exact Or.inr rfl | assumption | exact qwithin_b | exact qbit_b)) (by omega) (by omega) (⟨rfl, rfl, w0, rfl⟩)
      refine lda_n_3_0 (pc := 58) d_Md_isTest_58 ?_
      refine g_Md_146 (pc := 59) rfl d_Md_isTest_59 (by assumption) ?_
      refine lda_n_3_0 (pc := 62) d_Md_isTest_62 ?_
      refine g_Md_143 (pc := 63) rfl d_Md_isTest_63 (by assumption) ?_
      rw [a3', an]
      refine r_icmp_ge (pc := 66) (tgt := 98) d_Md_isTest_66 (by decide) (fun c2 => ?_) (fun c2 => ?_)
      · have e : plet f n 6 (s.1 + 1) = -1 := by unfold plet; rw [if_neg (fun q => absurd c2 (nI_ge q.1 (by omega)))]
        rw [e] at k99
        refine r_iconst (pc := 98) (v := (-1)) d_Md_isTest_98 rfl ?_
        exact k99
      · have hlt2 : s.1 + 1 < n := by
          rcases Nat.lt_or_ge (s.1 + 1) n with q | q
          · exact q
          · exact absurd (nI_le q (by omega)) c2
        obtain ⟨t1, t, t2, t3⟩ := x3 _ hlt2
        have e123 : K 123 (s.1 + 1) = f (s.1 + 1) := by rw [a1 123 (by decide) (by decide)]; exact t1
        refine lda_n_3_0 (pc := 69) d_Md_isTest_69 ?_
        refine g_Md_36 (pc := 70) rfl d_Md_isTest_70 (by assumption) (by assumption) ?_
        refine lda_n_3_0 (pc := 73) d_Md_isTest_73 ?_
        refine g_Md_146 (pc := 74) rfl d_Md_isTest_74 (by assumption) ?_
        rw [a3']
        refine r_iald (pc := 77) d_Md_isTest_77 (by assumption) (by first | assumption | exact vp_in_nI (by omega) (by omega) | (unfold vp_in; decide)) ?_
        rw [qcl (n := s.1 + 1) (by omega), e123]
        refine r_if_le (pc := 78) (tgt := 98) d_Md_isTest_78 (by decide) (fun c3 => ?_) (fun c3 => ?_)
        · have e : plet f n 6 (s.1 + 1) = -1 := by unfold plet; rw [if_neg (fun q => absurd q.2 (Int32.not_lt.mpr c3))]
          rw [e] at k99
          refine r_iconst (pc := 98) (v := (-1)) d_Md_isTest_98 rfl ?_
          exact k99
        · have e : plet f n 6 (s.1 + 1) = pfd (qByt.getD 6 []) 0 (nI t) := by unfold plet; rw [if_pos ⟨hlt2, Int32.not_le.mp c3⟩, t3]
          refine r_ldcS (pc := 81) (tx := "<=>") (i := 6) (by decide +kernel) d_Md_isTest_81 ?_
          refine lda_n_3_0 (pc := 83) d_Md_isTest_83 ?_
          refine g_Md_36 (pc := 84) rfl d_Md_isTest_84 (by assumption) (by assumption) ?_
          refine lda_n_3_0 (pc := 87) d_Md_isTest_87 ?_
          refine g_Md_146 (pc := 88) rfl d_Md_isTest_88 (by assumption) ?_
          rw [a3']
          refine r_iald (pc := 91) d_Md_isTest_91 (by assumption) (by first | assumption | exact vp_in_nI (by omega) (by omega) | (unfold vp_in; decide)) ?_
          rw [qcl (n := s.1 + 1) (by omega), e123, t3]
          refine r_callStr (pc := 92) (As := [.int (nI t)]) (by decide) k_Md_176 im_jS_indexOf1 se_jS_indexOf1 rfl (by decide) d_Md_isTest_92 (c_indexOf1 (i := 6) (by decide) t2) rfl (Nat.le_of_ble_eq_true rfl) (by omega) (by omega) (by omega) (fun v S' I' J' hq => ?_)
          obtain ⟨rfl, rfl, rfl, rfl⟩ := hq
          rw [e] at k99
          refine r_goto (pc := 95) (tgt := 99) d_Md_isTest_95 (by decide) ?_
          exact k99
    · have hlt : plet f n 0 s.1 < 0 := Int32.not_le.mp c
      have ep : ptest f n s = (false, s) := by unfold ptest; rw [if_pos hlt]
      rw [ep]
      refine r_iconst (pc := 46) (v := 0) d_Md_isTest_46 rfl ?_
      exact r_nret d_Md_isTest_47 rfl (qbool_n (by first | exact Or.inl rfl | exact Or.inr rfl | assumption | exact qwithin_b | exact qbit_b)) (by omega) (by omega) (⟨rfl, rfl, h0, rfl⟩)
  refine lda_n_3_0 (pc := 0) d_Md_isTest_0 ?_
  refine g_Md_146 (pc := 1) rfl d_Md_isTest_1 (by assumption) ?_
  refine lda_n_3_0 (pc := 4) d_Md_isTest_4 ?_
  refine g_Md_143 (pc := 5) rfl d_Md_isTest_5 (by assumption) ?_
  rw [h3, hn]
  refine r_icmp_ge (pc := 8) (tgt := 40) d_Md_isTest_8 (by decide) (fun c => ?_) (fun c => ?_)
  · have e : plet f n 0 s.1 = -1 := by unfold plet; rw [if_neg (fun q => absurd c (nI_ge q.1 (by omega)))]
    rw [e] at k41
    refine r_iconst (pc := 40) (v := (-1)) d_Md_isTest_40 rfl ?_
    exact k41
  · have hlt : s.1 < n := by
      rcases Nat.lt_or_ge s.1 n with q | q
      · exact q
      · exact absurd (nI_le q (by omega)) c
    obtain ⟨t1, t, t2, t3⟩ := x3 _ hlt
    have e123 : I 123 s.1 = f s.1 := by rw [h1 123 (by decide) (by decide)]; exact t1
    refine lda_n_3_0 (pc := 11) d_Md_isTest_11 ?_
    refine g_Md_36 (pc := 12) rfl d_Md_isTest_12 (by assumption) (by assumption) ?_
    refine lda_n_3_0 (pc := 15) d_Md_isTest_15 ?_
    refine g_Md_146 (pc := 16) rfl d_Md_isTest_16 (by assumption) ?_
    rw [h3]
    refine r_iald (pc := 19) d_Md_isTest_19 (by assumption) (by first | assumption | exact vp_in_nI (by omega) (by omega) | (unfold vp_in; decide)) ?_
    rw [qcl (n := s.1) (by omega), e123]
    refine r_if_le (pc := 20) (tgt := 40) d_Md_isTest_20 (by decide) (fun c3 => ?_) (fun c3 => ?_)
    · have e : plet f n 0 s.1 = -1 := by unfold plet; rw [if_neg (fun q => absurd q.2 (Int32.not_lt.mpr c3))]
      rw [e] at k41
      refine r_iconst (pc := 40) (v := (-1)) d_Md_isTest_40 rfl ?_
      exact k41
    · have e : plet f n 0 s.1 = pfd (qByt.getD 0 []) 0 (nI t) := by unfold plet; rw [if_pos ⟨hlt, Int32.not_le.mp c3⟩, t3]
      refine r_ldcS (pc := 23) (tx := "pkvgwd") (i := 0) (by decide +kernel) d_Md_isTest_23 ?_
      refine lda_n_3_0 (pc := 25) d_Md_isTest_25 ?_
      refine g_Md_36 (pc := 26) rfl d_Md_isTest_26 (by assumption) (by assumption) ?_
      refine lda_n_3_0 (pc := 29) d_Md_isTest_29 ?_
      refine g_Md_146 (pc := 30) rfl d_Md_isTest_30 (by assumption) ?_
      rw [h3]
      refine r_iald (pc := 33) d_Md_isTest_33 (by assumption) (by first | assumption | exact vp_in_nI (by omega) (by omega) | (unfold vp_in; decide)) ?_
      rw [qcl (n := s.1) (by omega), e123, t3]
      refine r_callStr (pc := 34) (As := [.int (nI t)]) (by decide) k_Md_176 im_jS_indexOf1 se_jS_indexOf1 rfl (by decide) d_Md_isTest_34 (c_indexOf1 (i := 0) (by decide) t2) rfl (Nat.le_of_ble_eq_true rfl) (by omega) (by omega) (by omega) (fun v S' I' J' hq => ?_)
      obtain ⟨rfl, rfl, rfl, rfl⟩ := hq
      rw [e] at k41
      refine r_goto (pc := 37) (tgt := 41) d_Md_isTest_37 (by decide) ?_
      exact k41
theorem c_Md_isOpened {x : Int32} (hM : isMd S) (hx : pTx I0 f n) (h : pRd I0 n cz op s I) (ho : op ≤ 4) : qMet E y_Md_isOpened b_Md_isOpened 2 (some .boolean) 1 0 0 [.ref (qb E + 114), .int x] S I J (fun v S' I' J' => S = S' ∧ J = J' ∧ ((v = some (.int 1) ∧ op < 4 ∧ (s.1 < n ∧ f s.1 = x) ∧ pRd I0 n cz (op + 1) (s.1 + 1, s.2) I') ∨ (v = some (.int 0) ∧ ¬ (op < 4 ∧ s.1 < n ∧ f s.1 = x) ∧ pRd I0 n cz op s I'))) := by
  have hT := hM.1
  have h5 := h.2.2.2.2.1
  refine qMet.of (L := [some (.ref (qb E + 114)), some (.int x)]) (by decide +kernel) (Nat.le_of_ble_eq_true rfl) rfl ?_
  refine lda_n_2_0 (pc := 0) d_Md_isOpened_0 ?_
  refine g_Md_187 (pc := 1) rfl d_Md_isOpened_1 (by assumption) ?_
  refine r_iconst (pc := 4) (v := 4) d_Md_isOpened_4 rfl ?_
  rw [h5]
  refine r_icmp_eq (pc := 5) (tgt := 16) d_Md_isOpened_5 (by decide) (fun c => ?_) (fun c => ?_)
  · have e : op = 4 := (nI_eq (by omega) (by omega)).mp (show nI op = nI 4 from c)
    refine r_iconst (pc := 16) (v := 0) d_Md_isOpened_16 rfl ?_
    exact r_nret d_Md_isOpened_17 rfl (qbool_n (by first | exact Or.inl rfl | exact Or.inr rfl | assumption | exact qwithin_b | exact qbit_b)) (by omega) (by omega) (⟨rfl, rfl, Or.inr ⟨rfl, by omega, h⟩⟩)
  · have e : ¬ op = 4 := fun q => c (by rw [q]; rfl)
    refine lda_n_2_0 (pc := 8) d_Md_isOpened_8 ?_
    refine ldi_n_2_1 (pc := 9) d_Md_isOpened_9 ?_
    refine r_callV (pc := 10) (As := [.int x]) (k := 9) (N := 56) (T := T_Md) k_Md_168 im_Md_is se_Md_is rfl (by decide) rfl (by decide) d_Md_isOpened_10 (by assumption) (c_Md_is hM hx h) rfl (Nat.le_of_ble_eq_true rfl) (by omega) (by omega) (by omega) (fun v S' I' J' hq => ?_)
    obtain ⟨rfl, rfl, hr, rfl⟩ := hq
    by_cases hc : s.1 < n ∧ f s.1 = x
    · rw [show pis f n x s = (true, s.1 + 1, s.2) from if_pos hc] at hr ⊢
      refine r_if_ne (pc := 13) (tgt := 18) d_Md_isOpened_13 (by decide) (fun c2 => ?_) (fun c2 => ?_)
      · have r5 := hr.2.2.2.2.1
        refine lda_n_2_0 (pc := 18) d_Md_isOpened_18 ?_
        refine r_dup (pc := 19) d_Md_isOpened_19 rfl ?_
        refine g_Md_187 (pc := 20) rfl d_Md_isOpened_20 (by assumption) ?_
        refine r_iconst (pc := 23) (v := 1) d_Md_isOpened_23 rfl ?_
        refine r_iadd (pc := 24) d_Md_isOpened_24 ?_
        refine p_Md_187 (pc := 25) rfl d_Md_isOpened_25 (by assumption) ?_
        refine r_iconst (pc := 28) (v := 1) d_Md_isOpened_28 rfl ?_
        exact r_nret d_Md_isOpened_29 rfl (qbool_n (by first | exact Or.inl rfl | exact Or.inr rfl | assumption | exact qwithin_b | exact qbit_b)) (by omega) (by omega) (⟨rfl, rfl, Or.inl ⟨rfl, by omega, hc, hr.op (by rw [r5, q1])⟩⟩)
      · exact absurd rfl (pb0 c2)
    · rw [show pis f n x s = (false, s) from if_neg hc] at hr ⊢
      refine r_if_ne (pc := 13) (tgt := 18) d_Md_isOpened_13 (by decide) (fun c2 => ?_) (fun c2 => ?_)
      · exact absurd rfl c2
      · refine r_iconst (pc := 16) (v := 0) d_Md_isOpened_16 rfl ?_
        exact r_nret d_Md_isOpened_17 rfl (qbool_n (by first | exact Or.inl rfl | exact Or.inr rfl | assumption | exact qwithin_b | exact qbit_b)) (by omega) (by omega) (⟨rfl, rfl, Or.inr ⟨rfl, fun q => hc q.2, hr⟩⟩)
theorem c_Md_isAll {i : Nat} (hi : i < 7) (hM : isMd S) (hx : pTx I0 f n) (h : pRd I0 n cz op s I) : qMet E y_Md_isAll b_Md_isAll 3 (some .boolean) 4 0 0 [.ref (qb E + 114), .ref (qsK E i)] S I J (pQ S J I0 n cz op (pall f n (qByt.getD i []) s)) := by
  have hT := hM.1
  have hlen : qLen.getD i 0 = (qByt.getD i []).length := (by decide +kernel : ∀ i, i < 7 → qLen.getD i 0 = (qByt.getD i []).length) i hi
  have hl100 : qLen.getD i 0 < 100 := (qchar_ok i hi).1
  refine qMet.of (L := [some (.ref (qb E + 114)), some (.ref (qsK E i)), none]) (by decide +kernel) (Nat.le_of_ble_eq_true rfl) rfl ?_
  refine r_iconst (pc := 0) (v := 0) d_Md_isAll_0 rfl ?_
  refine sti_n_3_2 (pc := 1) d_Md_isAll_1 rfl ?_
  have key := qfor (P := fun k => ∀ (K : qI) (t : pSt), pRd I0 n cz op t K → pall f n ((qByt.getD i []).drop k) t = pall f n (qByt.getD i []) s → qW E y_Md_isAll b_Md_isAll (some .boolean) 4 0 0 (pQ S J I0 n cz op (pall f n (qByt.getD i []) s)) 0 0 2 [some (.ref (qb E + 114)), some (.ref (qsK E i)), some (.int (nI k))] [] S K J) (qLen.getD i 0) ?_ ?_ 0 (by omega)
  · exact key I s h rfl
  · intro K t hK e
    rw [hlen, List.drop_length, pall] at e
    refine ldi_n_3_2 (pc := 2) d_Md_isAll_2 ?_
    refine lda_n_3_1 (pc := 3) d_Md_isAll_3 ?_
    refine r_callStr (pc := 4) (As := []) hi k_Md_159 im_jS_length se_jS_length rfl (by decide) d_Md_isAll_4 (c_length hi) rfl (Nat.le_of_ble_eq_true rfl) (by omega) (by omega) (by omega) (fun v S' I' J' hq => ?_)
    obtain ⟨rfl, rfl, rfl, rfl⟩ := hq
    refine r_icmp_ge (pc := 7) (tgt := 30) d_Md_isAll_7 (by decide) (fun c1 => ?_) (fun c1 => ?_)
    · rw [← e]
      refine r_iconst (pc := 30) (v := 1) d_Md_isAll_30 rfl ?_
      exact r_nret d_Md_isAll_31 rfl (qbool_n (by first | exact Or.inl rfl | exact Or.inr rfl | assumption | exact qwithin_b | exact qbit_b)) (by omega) (by omega) (⟨rfl, rfl, hK, rfl⟩)
    · exact absurd (nI_le (Nat.le_refl _) (by omega)) c1
  · intro k hk ih K t hK e
    have hk2 : k < (qByt.getD i []).length := by omega
    have ec : (qByt.getD i []).drop k = qchar i k :: (qByt.getD i []).drop (k + 1) := by
      rw [List.drop_eq_getElem_cons hk2]
      unfold qchar
      generalize qByt.getD i [] = l at hk2
      rw [List.getD_eq_getElem?_getD, List.getElem?_eq_getElem hk2]
      rfl
    rw [ec, pall] at e
    refine ldi_n_3_2 (pc := 2) d_Md_isAll_2 ?_
    refine lda_n_3_1 (pc := 3) d_Md_isAll_3 ?_
    refine r_callStr (pc := 4) (As := []) hi k_Md_159 im_jS_length se_jS_length rfl (by decide) d_Md_isAll_4 (c_length hi) rfl (Nat.le_of_ble_eq_true rfl) (by omega) (by omega) (by omega) (fun v S' I' J' hq => ?_)
    obtain ⟨rfl, rfl, rfl, rfl⟩ := hq
    refine r_icmp_ge (pc := 7) (tgt := 30) d_Md_isAll_7 (by decide) (fun c1 => ?_) (fun c1 => ?_)
    · exact absurd c1 (nI_ge hk (by omega))
    · refine lda_n_3_0 (pc := 10) d_Md_isAll_10 ?_
      refine lda_n_3_1 (pc := 11) d_Md_isAll_11 ?_
      refine ldi_n_3_2 (pc := 12) d_Md_isAll_12 ?_
      refine r_callStr (pc := 13) (As := [.int (nI k)]) hi k_Md_164 im_jS_charAt se_jS_charAt rfl (by decide) d_Md_isAll_13 (c_charAt hi hk) rfl (Nat.le_of_ble_eq_true rfl) (by omega) (by omega) (by omega) (fun v S' I' J' hq => ?_)
      obtain ⟨rfl, rfl, rfl, rfl⟩ := hq
      refine r_callV (pc := 16) (As := [.int (qchar i k)]) (k := 9) (N := 56) (T := T_Md) k_Md_168 im_Md_is se_Md_is rfl (by decide) rfl (by decide) d_Md_isAll_16 (by assumption) (c_Md_is hM hx hK) rfl (Nat.le_of_ble_eq_true rfl) (by omega) (by omega) (by omega) (fun v S' I' J' hq => ?_)
      obtain ⟨rfl, rfl, hr, rfl⟩ := hq
      by_cases hc : t.1 < n ∧ f t.1 = qchar i k
      · rw [show pis f n (qchar i k) t = (true, t.1 + 1, t.2) from if_pos hc] at hr ⊢
        rw [if_pos hc] at e
        refine r_if_ne (pc := 19) (tgt := 24) d_Md_isAll_19 (by decide) (fun c2 => ?_) (fun c2 => ?_)
        · refine inc_3_2 (pc := 24) (w := 1) d_Md_isAll_24 rfl rfl ?_
          refine r_goto (pc := 27) (tgt := 2) d_Md_isAll_27 (by decide) ?_
          rw [q1]
          exact ih _ _ hr e
        · exact absurd rfl (pb0 c2)
      · rw [show pis f n (qchar i k) t = (false, t) from if_neg hc] at hr ⊢
        rw [if_neg hc] at e
        refine r_if_ne (pc := 19) (tgt := 24) d_Md_isAll_19 (by decide) (fun c2 => ?_) (fun c2 => ?_)
        · exact absurd rfl c2
        · rw [← e]
          refine r_iconst (pc := 22) (v := 0) d_Md_isAll_22 rfl ?_
          exact r_nret d_Md_isAll_23 rfl (qbool_n (by first | exact Or.inl rfl | exact Or.inr rfl | assumption | exact qwithin_b | exact qbit_b)) (by omega) (by omega) (⟨rfl, rfl, hr, rfl⟩)
end G18
