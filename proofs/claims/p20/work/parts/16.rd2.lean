/-! E and F, clauses, the whole text -/
section QRD2
variable {E : qE} {S : qSh} {I0 : qI} {J : qJ} {f : Nat → Int32} {n o : Nat}
theorem c_Re_either {g : qSt → qSt} {dd : Nat} {op : Int32} (hR : isRe S) (hIs : isIs S o) (hx : qTx I0 f n o)
    (H1 : ∀ (I : qI) (s : qSt), qRd I0 o n s I → qMet E y_Re_one b_Re_one 5 none dd 0 0 [.ref (qb E + 87), .ref (qb E + o), .int op] S I J (fun v S' I' J' => v = none ∧ S = S' ∧ qRd I0 o n (g s) I' ∧ J = J')) (hdd : 1 ≤ dd) :
    ∀ (I : qI) (s : qSt), qRd I0 o n s I → qMet E y_Re_either b_Re_either 6 none (dd + 1) 0 0 [.ref (qb E + 87), .ref (qb E + o), .int op] S I J (fun v S' I' J' => v = none ∧ S = S' ∧ qRd I0 o n (reither f n g s) I' ∧ J = J') := by
  intro I s h
  have hR0 := hR
  obtain ⟨hT, hA, -⟩ := hR
  have gT := hIs.1
  have ho : o ≠ 87 := by have := hx.2.2.2; omega
  have ho1 : o + 1 ≠ 87 := by have := hx.2.2.2; omega
  refine qMet.of (L := [some (.ref (qb E + 87)), some (.ref (qb E + o)), some (.int op), none, none, none]) (by decide +kernel) (Nat.le_of_ble_eq_true rfl) rfl ?_
  refine lda_n_6_0 (pc := 0) d_Re_either_0 ?_
  refine lda_n_6_1 (pc := 1) d_Re_either_1 ?_
  refine ldi_n_6_2 (pc := 2) d_Re_either_2 ?_
  refine r_callV (pc := 3) (As := [.ref (qb E + o), .int op]) (k := 5) (N := 4) (T := T_Re) k_Re_65 im_Re_one se_Re_one rfl (by decide) rfl (by decide) d_Re_either_3 (by assumption) (H1 I s h) rfl (Nat.le_of_ble_eq_true rfl) (by omega) (by omega) (by omega) (fun v S' I' J' hq => ?_)
  obtain ⟨rfl, rfl, hs1, rfl⟩ := hq
  refine r_iconst (pc := 6) (v := 0) d_Re_either_6 rfl ?_
  refine sti_n_6_3 (pc := 7) d_Re_either_7 rfl ?_
  refine r_bipush (pc := 8) (v := 100) d_Re_either_8 rfl ?_
  refine sti_6_4 (pc := 10) d_Re_either_10 rfl ?_
  unfold reither
  generalize hend : rloop f n g 100 false (g s) = rr
  have fin : ∀ (M : qI) (t : qSt) (j : Bool) (z : Int32) (b : Option Value), qRd I0 o n t M → (j, t) = rr → qW E y_Re_either b_Re_either none (dd + 1) 0 0 (fun v S' I' J' => v = none ∧ S = S' ∧ qRd I0 o n (if rr.1 = true then rput (-3) rr.2 else rr.2) I' ∧ J = J') 0 0 114 [some (.ref (qb E + 87)), some (.ref (qb E + o)), some (.int op), some (.int (if j = true then 1 else 0)), some (.int z), b] [] S M J := by
    intro M t j z b ht e
    subst e
    refine ldi_n_6_3 (pc := 114) d_Re_either_114 ?_
    refine r_if_eq (pc := 115) (tgt := 124) d_Re_either_115 (by decide) (fun c => ?_) (fun c => ?_)
    · have hj : ¬ j = true := by intro q; rw [if_pos q] at c; exact absurd c (by decide)
      rw [if_neg hj]
      exact r_vret d_Re_either_124 rfl (by omega) (by omega) (⟨rfl, rfl, ht, rfl⟩)
    · have hj : j = true := by
        cases j
        · exact absurd rfl c
        · rfl
      rw [if_pos hj]
      refine lda_n_6_1 (pc := 118) d_Re_either_118 ?_
      refine r_bipush (pc := 119) (v := (-3)) d_Re_either_119 rfl ?_
      refine r_callVN (pc := 121) (As := [.int (-3)]) (k := 1) (N := 7) (T := T_Is) k_Re_68 im_Is_put se_Is_put rfl (by decide) rfl (by decide) d_Re_either_121 (by assumption) (c_Is_put hIs ht.2.2.2.2.2.1 ht.2.2.2.2.2.2.1) rfl (Nat.le_of_ble_eq_true rfl) (by omega) (by omega) (by omega) (fun v S' I' J' hq => ?_)
      obtain ⟨rfl, rfl, rfl, rfl⟩ := hq
      exact r_vret d_Re_either_124 rfl (by omega) (by omega) (⟨rfl, rfl, ht.put ho ho1, rfl⟩)
  have key : ∀ (m : Nat) (M : qI) (t : qSt) (j : Bool), m ≤ 100 → qRd I0 o n t M → rloop f n g m j t = rr → qW E y_Re_either b_Re_either none (dd + 1) 0 0 (fun v S' I' J' => v = none ∧ S = S' ∧ qRd I0 o n (if rr.1 = true then rput (-3) rr.2 else rr.2) I' ∧ J = J') 0 0 12 [some (.ref (qb E + 87)), some (.ref (qb E + o)), some (.int op), some (.int (if j = true then 1 else 0)), some (.int (nI m)), none] [] S M J := by
    intro m
    induction m with
    | zero =>
      intro M t j _ ht e
      refine ldi_6_4 (pc := 12) d_Re_either_12 ?_
      refine r_if_le (pc := 14) (tgt := 114) d_Re_either_14 (by decide) (fun c => ?_) (fun c => ?_)
      · exact fin M t j _ _ ht e
      · exact absurd (by decide) c
    | succ m ih =>
      intro M t j hm ht e
      rw [rloop] at e
      have last : ∀ (M2 : qI) (t2 : qSt) (j2 : Bool) (b : Int32), qRd I0 o n t2 M2 → rloop f n g m j2 t2 = rr → qW E y_Re_either b_Re_either none (dd + 1) 0 0 (fun v S' I' J' => v = none ∧ S = S' ∧ qRd I0 o n (if rr.1 = true then rput (-3) rr.2 else rr.2) I' ∧ J = J') 0 0 108 [some (.ref (qb E + 87)), some (.ref (qb E + o)), some (.int op), some (.int (if j2 = true then 1 else 0)), some (.int (nI (m + 1))), some (.int b)] [] S M2 J := by
        intro M2 t2 j2 b ht2 e2
        refine inc_6_4 (pc := 108) (w := (-1)) d_Re_either_108 rfl rfl ?_
        refine r_goto (pc := 111) (tgt := 12) d_Re_either_111 (by decide) ?_
        rw [pk_m1]
        exact qW.forget 5 (ih M2 t2 j2 (by omega) ht2 e2)
      refine ldi_6_4 (pc := 12) d_Re_either_12 ?_
      refine r_if_le (pc := 14) (tgt := 114) d_Re_either_14 (by decide) (fun c => ?_) (fun c => ?_)
      · exact absurd c (nI_nle (by omega) (by omega))
      · refine lda_n_6_0 (pc := 17) d_Re_either_17 ?_
        refine r_callV (pc := 18) (As := []) (k := 5) (N := 4) (T := T_Re) k_Re_32 im_Re_next se_Re_next rfl (by decide) rfl (by decide) d_Re_either_18 (by assumption) (c_Re_next hR0 hx ht) rfl (Nat.le_of_ble_eq_true rfl) (by omega) (by omega) (by omega) (fun v S' I' J' hq => ?_)
        obtain ⟨rfl, rfl, rfl, rfl⟩ := hq
        refine r_bipush (pc := 21) (v := 38) d_Re_either_21 rfl ?_
        by_cases h38 : rnx f n t = 38
        · rw [if_pos h38] at e
          rw [h38]
          have hlt := (rnx_lt (f := f) (n := n) (s := t) (by rw [h38]; decide)).2
          have htv := ht.adv ho ho1 hlt
          refine r_icmp_eq (pc := 23) (tgt := 35) d_Re_either_23 (by decide) (fun c1 => ?_) (fun c1 => ?_)
          · refine lda_n_6_0 (pc := 35) d_Re_either_35 ?_
            refine r_callV (pc := 36) (As := []) (k := 5) (N := 4) (T := T_Re) k_Re_32 im_Re_next se_Re_next rfl (by decide) rfl (by decide) d_Re_either_36 (by assumption) (c_Re_next hR0 hx ht) rfl (Nat.le_of_ble_eq_true rfl) (by omega) (by omega) (by omega) (fun v S' I' J' hq => ?_)
            obtain ⟨rfl, rfl, rfl, rfl⟩ := hq
            rw [h38]
            refine r_bipush (pc := 39) (v := 38) d_Re_either_39 rfl ?_
            refine r_icmp_ne (pc := 41) (tgt := 48) d_Re_either_41 (by decide) (fun c2 => ?_) (fun c2 => ?_)
            · exact absurd rfl c2
            · refine r_iconst (pc := 44) (v := 1) d_Re_either_44 rfl ?_
              refine r_goto (pc := 45) (tgt := 49) d_Re_either_45 (by decide) ?_
              refine sti_6_5 (pc := 49) d_Re_either_49 rfl ?_
              refine lda_n_6_0 (pc := 51) d_Re_either_51 ?_
              refine r_dup (pc := 52) d_Re_either_52 rfl ?_
              refine g_Re_20 (pc := 53) rfl d_Re_either_53 (by assumption) ?_
              refine r_iconst (pc := 56) (v := 1) d_Re_either_56 rfl ?_
              refine r_iadd (pc := 57) d_Re_either_57 ?_
              refine p_Re_20 (pc := 58) rfl d_Re_either_58 (by assumption) ?_
              refine ldi_n_6_3 (pc := 61) d_Re_either_61 ?_
              have tail : qW E y_Re_either b_Re_either none (dd + 1) 0 0 (fun v S' I' J' => v = none ∧ S = S' ∧ qRd I0 o n (if rr.1 = true then rput (-3) rr.2 else rr.2) I' ∧ J = J') 0 0 91 [some (.ref (qb E + 87)), some (.ref (qb E + o)), some (.int op), some (.int (if j = true then 1 else 0)), some (.int (nI (m + 1))), some (.int 1)] [] S (qup M 87 2 (M 87 2 + 1)) J := by
                refine lda_n_6_0 (pc := 91) d_Re_either_91 ?_
                refine lda_n_6_1 (pc := 92) d_Re_either_92 ?_
                refine ldi_n_6_2 (pc := 93) d_Re_either_93 ?_
                refine r_callV (pc := 94) (As := [.ref (qb E + o), .int op]) (k := 5) (N := 4) (T := T_Re) k_Re_65 im_Re_one se_Re_one rfl (by decide) rfl (by decide) d_Re_either_94 (by assumption) (H1 _ _ htv) rfl (Nat.le_of_ble_eq_true rfl) (by omega) (by omega) (by omega) (fun v S' I' J' hq => ?_)
                obtain ⟨rfl, rfl, hs2, rfl⟩ := hq
                refine ldi_6_5 (pc := 97) d_Re_either_97 ?_
                refine r_if_eq (pc := 99) (tgt := 108) d_Re_either_99 (by decide) (fun c5 => ?_) (fun c5 => ?_)
                · exact absurd c5 (by decide)
                · refine lda_n_6_1 (pc := 102) d_Re_either_102 ?_
                  refine r_bipush (pc := 103) (v := (-2)) d_Re_either_103 rfl ?_
                  refine r_callVN (pc := 105) (As := [.int (-2)]) (k := 1) (N := 7) (T := T_Is) k_Re_68 im_Is_put se_Is_put rfl (by decide) rfl (by decide) d_Re_either_105 (by assumption) (c_Is_put hIs hs2.2.2.2.2.2.1 hs2.2.2.2.2.2.2.1) rfl (Nat.le_of_ble_eq_true rfl) (by omega) (by omega) (by omega) (fun v S' I' J' hq => ?_)
                  obtain ⟨rfl, rfl, rfl, rfl⟩ := hq
                  exact last _ _ _ _ (hs2.put ho ho1) e
              refine r_if_eq (pc := 62) (tgt := 76) d_Re_either_62 (by decide) (fun c3 => ?_) (fun c3 => ?_)
              · refine ldi_n_6_3 (pc := 76) d_Re_either_76 ?_
                refine r_if_ne (pc := 77) (tgt := 85) d_Re_either_77 (by decide) (fun c4 => ?_) (fun c4 => ?_)
                · exact absurd c3 c4
                · refine ldi_6_5 (pc := 80) d_Re_either_80 ?_
                  refine r_if_ne (pc := 82) (tgt := 89) d_Re_either_82 (by decide) (fun c5 => ?_) (fun c5 => ?_)
                  · refine r_iconst (pc := 89) (v := 0) d_Re_either_89 rfl ?_
                    refine sti_n_6_3 (pc := 90) d_Re_either_90 rfl ?_
                    rw [c3] at tail
                    exact tail
                  · exact absurd c5 (by decide)
              · refine ldi_6_5 (pc := 65) d_Re_either_65 ?_
                refine r_if_ne (pc := 67) (tgt := 76) d_Re_either_67 (by decide) (fun c4 => ?_) (fun c4 => ?_)
                · refine ldi_n_6_3 (pc := 76) d_Re_either_76 ?_
                  refine r_if_ne (pc := 77) (tgt := 85) d_Re_either_77 (by decide) (fun c5 => ?_) (fun c5 => ?_)
                  · refine r_iconst (pc := 85) (v := 1) d_Re_either_85 rfl ?_
                    refine r_goto (pc := 86) (tgt := 90) d_Re_either_86 (by decide) ?_
                    refine sti_n_6_3 (pc := 90) d_Re_either_90 rfl ?_
                    have hj : j = true := by
                      cases j
                      · exact absurd rfl c3
                      · rfl
                    rw [if_pos hj] at tail
                    exact tail
                  · exact absurd c5 c3
                · exact absurd c4 (by decide)
          · exact absurd rfl c1
        · rw [if_neg h38] at e
          refine r_icmp_eq (pc := 23) (tgt := 35) d_Re_either_23 (by decide) (fun c1 => ?_) (fun c1 => ?_)
          · exact absurd c1 h38
          · refine lda_n_6_0 (pc := 26) d_Re_either_26 ?_
            refine r_callV (pc := 27) (As := []) (k := 5) (N := 4) (T := T_Re) k_Re_32 im_Re_next se_Re_next rfl (by decide) rfl (by decide) d_Re_either_27 (by assumption) (c_Re_next hR0 hx ht) rfl (Nat.le_of_ble_eq_true rfl) (by omega) (by omega) (by omega) (fun v S' I' J' hq => ?_)
            obtain ⟨rfl, rfl, rfl, rfl⟩ := hq
            refine r_bipush (pc := 30) (v := 124) d_Re_either_30 rfl ?_
            by_cases h124 : rnx f n t = 124
            · rw [if_pos h124] at e
              rw [h124]
              have hlt := (rnx_lt (f := f) (n := n) (s := t) (by rw [h124]; decide)).2
              have htv := ht.adv ho ho1 hlt
              refine r_icmp_ne (pc := 32) (tgt := 114) d_Re_either_32 (by decide) (fun c2 => ?_) (fun c2 => ?_)
              · exact absurd rfl c2
              · refine lda_n_6_0 (pc := 35) d_Re_either_35 ?_
                refine r_callV (pc := 36) (As := []) (k := 5) (N := 4) (T := T_Re) k_Re_32 im_Re_next se_Re_next rfl (by decide) rfl (by decide) d_Re_either_36 (by assumption) (c_Re_next hR0 hx ht) rfl (Nat.le_of_ble_eq_true rfl) (by omega) (by omega) (by omega) (fun v S' I' J' hq => ?_)
                obtain ⟨rfl, rfl, rfl, rfl⟩ := hq
                refine r_bipush (pc := 39) (v := 38) d_Re_either_39 rfl ?_
                refine r_icmp_ne (pc := 41) (tgt := 48) d_Re_either_41 (by decide) (fun c3 => ?_) (fun c3 => ?_)
                · refine r_iconst (pc := 48) (v := 0) d_Re_either_48 rfl ?_
                  refine sti_6_5 (pc := 49) d_Re_either_49 rfl ?_
                  refine lda_n_6_0 (pc := 51) d_Re_either_51 ?_
                  refine r_dup (pc := 52) d_Re_either_52 rfl ?_
                  refine g_Re_20 (pc := 53) rfl d_Re_either_53 (by assumption) ?_
                  refine r_iconst (pc := 56) (v := 1) d_Re_either_56 rfl ?_
                  refine r_iadd (pc := 57) d_Re_either_57 ?_
                  refine p_Re_20 (pc := 58) rfl d_Re_either_58 (by assumption) ?_
                  refine ldi_n_6_3 (pc := 61) d_Re_either_61 ?_
                  have tail : ∀ (M2 : qI) (t2 : qSt), qRd I0 o n t2 M2 → rloop f n g m true (g t2) = rr → qW E y_Re_either b_Re_either none (dd + 1) 0 0 (fun v S' I' J' => v = none ∧ S = S' ∧ qRd I0 o n (if rr.1 = true then rput (-3) rr.2 else rr.2) I' ∧ J = J') 0 0 91 [some (.ref (qb E + 87)), some (.ref (qb E + o)), some (.int op), some (.int 1), some (.int (nI (m + 1))), some (.int 0)] [] S M2 J := by
                    intro M2 t2 ht2 e2
                    refine lda_n_6_0 (pc := 91) d_Re_either_91 ?_
                    refine lda_n_6_1 (pc := 92) d_Re_either_92 ?_
                    refine ldi_n_6_2 (pc := 93) d_Re_either_93 ?_
                    refine r_callV (pc := 94) (As := [.ref (qb E + o), .int op]) (k := 5) (N := 4) (T := T_Re) k_Re_65 im_Re_one se_Re_one rfl (by decide) rfl (by decide) d_Re_either_94 (by assumption) (H1 _ _ ht2) rfl (Nat.le_of_ble_eq_true rfl) (by omega) (by omega) (by omega) (fun v S' I' J' hq => ?_)
                    obtain ⟨rfl, rfl, hs2, rfl⟩ := hq
                    refine ldi_6_5 (pc := 97) d_Re_either_97 ?_
                    refine r_if_eq (pc := 99) (tgt := 108) d_Re_either_99 (by decide) (fun c5 => ?_) (fun c5 => ?_)
                    · exact last _ _ true _ hs2 e2
                    · exact absurd rfl c5
                  refine r_if_eq (pc := 62) (tgt := 76) d_Re_either_62 (by decide) (fun c4 => ?_) (fun c4 => ?_)
                  · have hj : ¬ j = true := by intro q; rw [if_pos q] at c4; exact absurd c4 (by decide)
                    rw [if_neg hj] at e
                    refine ldi_n_6_3 (pc := 76) d_Re_either_76 ?_
                    refine r_if_ne (pc := 77) (tgt := 85) d_Re_either_77 (by decide) (fun c5 => ?_) (fun c5 => ?_)
                    · exact absurd c4 c5
                    · refine ldi_6_5 (pc := 80) d_Re_either_80 ?_
                      refine r_if_ne (pc := 82) (tgt := 89) d_Re_either_82 (by decide) (fun c6 => ?_) (fun c6 => ?_)
                      · exact absurd rfl c6
                      · refine r_iconst (pc := 85) (v := 1) d_Re_either_85 rfl ?_
                        refine r_goto (pc := 86) (tgt := 90) d_Re_either_86 (by decide) ?_
                        refine sti_n_6_3 (pc := 90) d_Re_either_90 rfl ?_
                        exact tail _ _ htv e
                  · have hj : j = true := by
                      cases j
                      · exact absurd rfl c4
                      · rfl
                    rw [if_pos hj] at e
                    refine ldi_6_5 (pc := 65) d_Re_either_65 ?_
                    refine r_if_ne (pc := 67) (tgt := 76) d_Re_either_67 (by decide) (fun c5 => ?_) (fun c5 => ?_)
                    · exact absurd rfl c5
                    · refine lda_n_6_1 (pc := 70) d_Re_either_70 ?_
                      refine r_bipush (pc := 71) (v := (-3)) d_Re_either_71 rfl ?_
                      refine r_callVN (pc := 73) (As := [.int (-3)]) (k := 1) (N := 7) (T := T_Is) k_Re_68 im_Is_put se_Is_put rfl (by decide) rfl (by decide) d_Re_either_73 (by assumption) (c_Is_put hIs htv.2.2.2.2.2.1 htv.2.2.2.2.2.2.1) rfl (Nat.le_of_ble_eq_true rfl) (by omega) (by omega) (by omega) (fun v S' I' J' hq => ?_)
                      obtain ⟨rfl, rfl, rfl, rfl⟩ := hq
                      refine ldi_n_6_3 (pc := 76) d_Re_either_76 ?_
                      refine r_if_ne (pc := 77) (tgt := 85) d_Re_either_77 (by decide) (fun c6 => ?_) (fun c6 => ?_)
                      · refine r_iconst (pc := 85) (v := 1) d_Re_either_85 rfl ?_
                        refine r_goto (pc := 86) (tgt := 90) d_Re_either_86 (by decide) ?_
                        refine sti_n_6_3 (pc := 90) d_Re_either_90 rfl ?_
                        exact tail _ _ (htv.put ho ho1) e
                      · exact absurd c6 c4
                · exact absurd (show rnx f n t = 38 from c3) h38
            · rw [if_neg h124] at e
              refine r_icmp_ne (pc := 32) (tgt := 114) d_Re_either_32 (by decide) (fun c2 => ?_) (fun c2 => ?_)
              · exact fin M t j _ _ ht e
              · exact absurd c2 h124
  exact key 100 _ (g s) false (Nat.le_refl _) hs1 hend
theorem c_Re_one (hR : isRe S) (hIs : isIs S o) (hx : qTx I0 f n o) : ∀ (k op : Nat), k + op = 4 → ∀ (I : qI) (s : qSt), qRd I0 o n s I → qMet E y_Re_one b_Re_one 5 none (2 * k + 5) 0 0 [.ref (qb E + 87), .ref (qb E + o), .int (nI op)] S I J (fun v S' I' J' => v = none ∧ S = S' ∧ qRd I0 o n (rone f n k s) I' ∧ J = J') := by
  have hR0 := hR
  obtain ⟨hT, hA, -⟩ := hR
  have gT := hIs.1
  have ho : o ≠ 87 := by have := hx.2.2.2; omega
  have ho1 : o + 1 ≠ 87 := by have := hx.2.2.2; omega
  have tst : ∀ (dd : Nat) (M : qI) (s : qSt) (op : Nat) (r : qSt), 5 ≤ dd → qRd I0 o n s M → rtest f n s = r → qW E y_Re_one b_Re_one none dd 0 0 (fun v S' I' J' => v = none ∧ S = S' ∧ qRd I0 o n r I' ∧ J = J') 0 0 81 [some (.ref (qb E + 87)), some (.ref (qb E + o)), some (.int (nI op)), none, none] [] S M J := by
    intro dd M s op r hdd h e
    subst e
    refine lda_n_5_0 (pc := 81) d_Re_one_81 ?_
    refine r_ldcS (pc := 82) (tx := "pkvgwd") (i := 0) (by decide +kernel) d_Re_one_82 ?_
    refine r_callV (pc := 84) (As := [.ref (qsK E 0)]) (k := 5) (N := 4) (T := T_Re) k_Re_75 im_Re_oneOf se_Re_oneOf rfl (by decide) rfl (by decide) d_Re_one_84 (by assumption) (c_Re_oneOf (by decide) hR0 hx h) rfl (Nat.le_of_ble_eq_true rfl) (by omega) (by omega) (by omega) (fun v S' I' J' hq => ?_)
    obtain ⟨rfl, rfl, h2, rfl⟩ := hq
    refine sti_n_5_3 (pc := 87) d_Re_one_87 rfl ?_
    refine lda_n_5_0 (pc := 88) d_Re_one_88 ?_
    refine r_ldcS (pc := 89) (tx := "<=>") (i := 6) (by decide +kernel) d_Re_one_89 ?_
    refine r_callV (pc := 91) (As := [.ref (qsK E 6)]) (k := 5) (N := 4) (T := T_Re) k_Re_75 im_Re_oneOf se_Re_oneOf rfl (by decide) rfl (by decide) d_Re_one_91 (by assumption) (c_Re_oneOf (by decide) hR0 hx h2) rfl (Nat.le_of_ble_eq_true rfl) (by omega) (by omega) (by omega) (fun v S' I' J' hq => ?_)
    obtain ⟨rfl, rfl, h3, rfl⟩ := hq
    refine sti_5_4 (pc := 94) d_Re_one_94 rfl ?_
    refine lda_n_5_1 (pc := 96) d_Re_one_96 ?_
    refine ldi_n_5_3 (pc := 97) d_Re_one_97 ?_
    refine ldi_5_4 (pc := 98) d_Re_one_98 ?_
    refine lda_n_5_0 (pc := 100) d_Re_one_100 ?_
    refine r_callV (pc := 101) (As := []) (k := 5) (N := 4) (T := T_Re) k_Re_49 im_Re_number se_Re_number rfl (by decide) rfl (by decide) d_Re_one_101 (by assumption) (c_Re_number hR0 hx h3) rfl (Nat.le_of_ble_eq_true rfl) (by omega) (by omega) (by omega) (fun v S' I' J' hq => ?_)
    obtain ⟨rfl, rfl, h4, rfl⟩ := hq
    refine r_callSN (pc := 104) (As := [.int (roneOf f n (qByt.getD 0 []) 0 s).1, .int (roneOf f n (qByt.getD 6 []) 0 (roneOf f n (qByt.getD 0 []) 0 s).2).1, .int (rnum f n (roneOf f n (qByt.getD 6 []) 0 (roneOf f n (qByt.getD 0 []) 0 s).2).2).1]) k_Re_81 sw_Is_testCode rfl (by decide) d_Re_one_104 (c_Is_testCode) rfl (Nat.le_of_ble_eq_true rfl) (by omega) (by omega) (by omega) (fun v S' I' J' hq => ?_)
    obtain ⟨rfl, rfl, rfl, rfl⟩ := hq
    refine r_callVN (pc := 107) (As := [.int (((roneOf f n (qByt.getD 0 []) 0 s).1 * 3 + (roneOf f n (qByt.getD 6 []) 0 (roneOf f n (qByt.getD 0 []) 0 s).2).1) * 100 + (rnum f n (roneOf f n (qByt.getD 6 []) 0 (roneOf f n (qByt.getD 0 []) 0 s).2).2).1)]) (k := 1) (N := 7) (T := T_Is) k_Re_68 im_Is_put se_Is_put rfl (by decide) rfl (by decide) d_Re_one_107 (by assumption) (c_Is_put hIs h4.2.2.2.2.2.1 h4.2.2.2.2.2.2.1) rfl (Nat.le_of_ble_eq_true rfl) (by omega) (by omega) (by omega) (fun v S' I' J' hq => ?_)
    obtain ⟨rfl, rfl, rfl, rfl⟩ := hq
    exact r_vret d_Re_one_110 rfl (by omega) (by omega) (⟨rfl, rfl, h4.put ho ho1, rfl⟩)
  intro k
  induction k with
  | zero =>
    intro op hop I s h
    have e4 : op = 4 := by omega
    subst e4
    refine qMet.of (L := [some (.ref (qb E + 87)), some (.ref (qb E + o)), some (.int (nI 4)), none, none]) (by decide +kernel) (Nat.le_of_ble_eq_true rfl) rfl ?_
    refine lda_n_5_0 (pc := 0) d_Re_one_0 ?_
    refine r_callV (pc := 1) (As := []) (k := 5) (N := 4) (T := T_Re) k_Re_32 im_Re_next se_Re_next rfl (by decide) rfl (by decide) d_Re_one_1 (by assumption) (c_Re_next hR0 hx h) rfl (Nat.le_of_ble_eq_true rfl) (by omega) (by omega) (by omega) (fun v S' I' J' hq => ?_)
    obtain ⟨rfl, rfl, rfl, rfl⟩ := hq
    have nxt : qW E y_Re_one b_Re_one none (2 * 0 + 5) 0 0 (fun v S' I' J' => v = none ∧ S = S' ∧ qRd I0 o n (rone f n 0 s) I' ∧ J = J') 0 0 40 [some (.ref (qb E + 87)), some (.ref (qb E + o)), some (.int (nI 4)), none, none] [] S I J := by
      refine lda_n_5_0 (pc := 40) d_Re_one_40 ?_
      refine r_callV (pc := 41) (As := []) (k := 5) (N := 4) (T := T_Re) k_Re_32 im_Re_next se_Re_next rfl (by decide) rfl (by decide) d_Re_one_41 (by assumption) (c_Re_next hR0 hx h) rfl (Nat.le_of_ble_eq_true rfl) (by omega) (by omega) (by omega) (fun v S' I' J' hq => ?_)
      obtain ⟨rfl, rfl, rfl, rfl⟩ := hq
      refine r_bipush (pc := 44) (v := 40) d_Re_one_44 rfl ?_
      refine r_icmp_ne (pc := 46) (tgt := 81) d_Re_one_46 (by decide) (fun c2 => ?_) (fun c2 => ?_)
      · exact tst _ _ _ _ _ (by omega) h rfl
      · refine ldi_n_5_2 (pc := 49) d_Re_one_49 ?_
        refine r_iconst (pc := 50) (v := 4) d_Re_one_50 rfl ?_
        refine r_icmp_ge (pc := 51) (tgt := 81) d_Re_one_51 (by decide) (fun c3 => ?_) (fun c3 => ?_)
        · exact tst _ _ _ _ _ (by omega) h rfl
        · exact absurd (by decide) c3
    refine r_bipush (pc := 4) (v := 33) d_Re_one_4 rfl ?_
    refine r_icmp_ne (pc := 6) (tgt := 40) d_Re_one_6 (by decide) (fun c1 => ?_) (fun c1 => ?_)
    · exact nxt
    · refine ldi_n_5_2 (pc := 9) d_Re_one_9 ?_
      refine r_iconst (pc := 10) (v := 4) d_Re_one_10 rfl ?_
      refine r_icmp_ge (pc := 11) (tgt := 40) d_Re_one_11 (by decide) (fun c2 => ?_) (fun c2 => ?_)
      · exact nxt
      · exact absurd (by decide) c2
  | succ k ih =>
    intro op hop I s h
    have ihk := ih (op + 1) (by omega)
    have nlt : ¬ nI 4 ≤ nI op := nI_ge (by omega) (by omega)
    refine qMet.of (L := [some (.ref (qb E + 87)), some (.ref (qb E + o)), some (.int (nI op)), none, none]) (by decide +kernel) (Nat.le_of_ble_eq_true rfl) rfl ?_
    refine lda_n_5_0 (pc := 0) d_Re_one_0 ?_
    refine r_callV (pc := 1) (As := []) (k := 5) (N := 4) (T := T_Re) k_Re_32 im_Re_next se_Re_next rfl (by decide) rfl (by decide) d_Re_one_1 (by assumption) (c_Re_next hR0 hx h) rfl (Nat.le_of_ble_eq_true rfl) (by omega) (by omega) (by omega) (fun v S' I' J' hq => ?_)
    obtain ⟨rfl, rfl, rfl, rfl⟩ := hq
    unfold rone
    refine r_bipush (pc := 4) (v := 33) d_Re_one_4 rfl ?_
    refine r_icmp_ne (pc := 6) (tgt := 40) d_Re_one_6 (by decide) (fun c1 => ?_) (fun c1 => ?_)
    · rw [if_neg c1]
      refine lda_n_5_0 (pc := 40) d_Re_one_40 ?_
      refine r_callV (pc := 41) (As := []) (k := 5) (N := 4) (T := T_Re) k_Re_32 im_Re_next se_Re_next rfl (by decide) rfl (by decide) d_Re_one_41 (by assumption) (c_Re_next hR0 hx h) rfl (Nat.le_of_ble_eq_true rfl) (by omega) (by omega) (by omega) (fun v S' I' J' hq => ?_)
      obtain ⟨rfl, rfl, rfl, rfl⟩ := hq
      refine r_bipush (pc := 44) (v := 40) d_Re_one_44 rfl ?_
      refine r_icmp_ne (pc := 46) (tgt := 81) d_Re_one_46 (by decide) (fun c2 => ?_) (fun c2 => ?_)
      · rw [if_neg c2]
        exact tst _ _ _ _ _ (by omega) h rfl
      · rw [if_pos c2]
        have hlt := (rnx_lt (f := f) (n := n) (s := s) (by rw [c2]; decide)).2
        refine ldi_n_5_2 (pc := 49) d_Re_one_49 ?_
        refine r_iconst (pc := 50) (v := 4) d_Re_one_50 rfl ?_
        refine r_icmp_ge (pc := 51) (tgt := 81) d_Re_one_51 (by decide) (fun c3 => ?_) (fun c3 => ?_)
        · exact absurd c3 nlt
        · refine lda_n_5_0 (pc := 54) d_Re_one_54 ?_
          refine r_dup (pc := 55) d_Re_one_55 rfl ?_
          refine g_Re_20 (pc := 56) rfl d_Re_one_56 (by assumption) ?_
          refine r_iconst (pc := 59) (v := 1) d_Re_one_59 rfl ?_
          refine r_iadd (pc := 60) d_Re_one_60 ?_
          refine p_Re_20 (pc := 61) rfl d_Re_one_61 (by assumption) ?_
          refine lda_n_5_0 (pc := 64) d_Re_one_64 ?_
          refine lda_n_5_1 (pc := 65) d_Re_one_65 ?_
          refine ldi_n_5_2 (pc := 66) d_Re_one_66 ?_
          refine r_iconst (pc := 67) (v := 1) d_Re_one_67 rfl ?_
          refine r_iadd (pc := 68) d_Re_one_68 ?_
          rw [q1]
          refine r_callV (pc := 69) (As := [.ref (qb E + o), .int (nI (op + 1))]) (k := 5) (N := 4) (T := T_Re) k_Re_54 im_Re_either se_Re_either rfl (by decide) rfl (by decide) d_Re_one_69 (by assumption) (c_Re_either hR0 hIs hx ihk (by omega) _ _ (h.adv ho ho1 hlt)) rfl (Nat.le_of_ble_eq_true rfl) (by omega) (by omega) (by omega) (fun v S' I' J' hq => ?_)
          obtain ⟨rfl, rfl, h2, rfl⟩ := hq
          refine lda_n_5_0 (pc := 72) d_Re_one_72 ?_
          refine r_ldcS (pc := 73) (tx := ")") (i := 5) (by decide +kernel) d_Re_one_73 ?_
          refine r_callV (pc := 75) (As := [.ref (qsK E 5)]) (k := 5) (N := 4) (T := T_Re) k_Re_45 im_Re_take se_Re_take rfl (by decide) rfl (by decide) d_Re_one_75 (by assumption) (c_Re_take (by decide) hR0 hx h2) rfl (Nat.le_of_ble_eq_true rfl) (by omega) (by omega) (by omega) (fun v S' I' J' hq => ?_)
          obtain ⟨rfl, rfl, h3, rfl⟩ := hq
          refine r_goto (pc := 78) (tgt := 110) d_Re_one_78 (by decide) ?_
          exact r_vret d_Re_one_110 rfl (by omega) (by omega) (⟨rfl, rfl, h3, rfl⟩)
    · rw [if_pos c1]
      have hlt := (rnx_lt (f := f) (n := n) (s := s) (by rw [c1]; decide)).2
      refine ldi_n_5_2 (pc := 9) d_Re_one_9 ?_
      refine r_iconst (pc := 10) (v := 4) d_Re_one_10 rfl ?_
      refine r_icmp_ge (pc := 11) (tgt := 40) d_Re_one_11 (by decide) (fun c2 => ?_) (fun c2 => ?_)
      · exact absurd c2 nlt
      · refine lda_n_5_0 (pc := 14) d_Re_one_14 ?_
        refine r_dup (pc := 15) d_Re_one_15 rfl ?_
        refine g_Re_20 (pc := 16) rfl d_Re_one_16 (by assumption) ?_
        refine r_iconst (pc := 19) (v := 1) d_Re_one_19 rfl ?_
        refine r_iadd (pc := 20) d_Re_one_20 ?_
        refine p_Re_20 (pc := 21) rfl d_Re_one_21 (by assumption) ?_
        refine lda_n_5_0 (pc := 24) d_Re_one_24 ?_
        refine lda_n_5_1 (pc := 25) d_Re_one_25 ?_
        refine ldi_n_5_2 (pc := 26) d_Re_one_26 ?_
        refine r_iconst (pc := 27) (v := 1) d_Re_one_27 rfl ?_
        refine r_iadd (pc := 28) d_Re_one_28 ?_
        rw [q1]
        refine r_callV (pc := 29) (As := [.ref (qb E + o), .int (nI (op + 1))]) (k := 5) (N := 4) (T := T_Re) k_Re_65 im_Re_one se_Re_one rfl (by decide) rfl (by decide) d_Re_one_29 (by assumption) (ihk _ _ (h.adv ho ho1 hlt)) rfl (Nat.le_of_ble_eq_true rfl) (by omega) (by omega) (by omega) (fun v S' I' J' hq => ?_)
        obtain ⟨rfl, rfl, h2, rfl⟩ := hq
        refine lda_n_5_1 (pc := 32) d_Re_one_32 ?_
        refine r_iconst (pc := 33) (v := (-1)) d_Re_one_33 rfl ?_
        refine r_callVN (pc := 34) (As := [.int (-1)]) (k := 1) (N := 7) (T := T_Is) k_Re_68 im_Is_put se_Is_put rfl (by decide) rfl (by decide) d_Re_one_34 (by assumption) (c_Is_put hIs h2.2.2.2.2.2.1 h2.2.2.2.2.2.2.1) rfl (Nat.le_of_ble_eq_true rfl) (by omega) (by omega) (by omega) (fun v S' I' J' hq => ?_)
        obtain ⟨rfl, rfl, rfl, rfl⟩ := hq
        refine r_goto (pc := 37) (tgt := 110) d_Re_one_37 (by decide) ?_
        exact r_vret d_Re_one_110 rfl (by omega) (by omega) (⟨rfl, rfl, h2.put ho ho1, rfl⟩)
end QRD2
