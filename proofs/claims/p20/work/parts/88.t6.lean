/-! what each hurts by each place, told exactly: the reference's side; its asks by all rows -/
theorem rpn_at {I K : qI} {p d0 t : Nat} (h : mLk I K) (hd : I 114 10 = nI d0) : mpain K p (nI (d0 + t)) (qmin 99 (K 118 p + nI (d0 + t) - K 114 10)) = rpn I p t := by
  have e : I 118 p + nI (d0 + t) - nI d0 = I 118 p + nI t := by rw [Nat.add_comm d0 t, ← nI_add, ← Int32.add_assoc, Int32.add_sub_cancel]
  unfold rpn
  rw [mpain_lk h, h.1 118 (by decide) (by decide) (by decide) (by decide), h.2 10 (by decide), hd, nI_add, e]
theorem rls_at {I K : qI} {d0 t : Nat} (h : mLk I K) (hd : I 114 10 = nI d0) : qlost (mlost K) (nI (d0 + t)) = rls I t := by
  unfold rls
  rw [mlost_lk h, hd, nI_add]
/-- so far looked at: whom (W), the table below k -/
def lkI (I K : qI) (k : Nat) (W : List Nat) : Prop := mSame I K ∧ mLk I K ∧ K 114 43 = nI W.length ∧ (∀ i, i < W.length → K 142 i = nI (W.getD i 0)) ∧ ∀ p j, p < k → j < 6 → K 141 (6 * p + j) = wH (rls I) (rpn I p) j
theorem lkI.q {I K K2 : qI} {k : Nat} {W : List Nat} (h : lkI I K k W) (hg : q130 K K2) : lkI I K2 k W := by
  obtain ⟨a, b, c, d, e⟩ := h
  exact ⟨a.tr (mSame.q130 hg), b.tr (mLk.q hg), by rw [hg 114 (by decide)]; exact c, fun i hi => by rw [hg 142 (by decide)]; exact d i hi, fun p j x y => by rw [hg 141 (by decide)]; exact e p j x y⟩
theorem lkI.put {I K : qI} {k i : Nat} {W : List Nat} {x : Int32} (h : lkI I K k W) (hi : 6 * k ≤ i) : lkI I (qup K 141 i x) k W := by
  obtain ⟨a, b, c, d, e⟩ := h
  exact ⟨a.tr (mSame.sc (Or.inr (by decide))), b.tr (mLk.sc (Or.inl rfl)), by rw [qup_o (by decide)]; exact c, fun i hi => by rw [qup_o (by decide)]; exact d i hi, fun p j x y => by rw [qup_j (by omega)]; exact e p j x y⟩
abbrev rLq (S : qSh) (I : qI) (J : qJ) (c : Nat) : qPost := fun v S' I' J' => v = none ∧ S = S' ∧ lkI I I' c (nWl (fun p => I 120 p) c) ∧ J = J'
section T6
variable {E : qE} {S : qSh} {I : qI} {J : qJ}
theorem c_Md_looksX {c : Nat} (hM : isMd S) (h : mDay I 9999) (hc : I 114 0 = nI c) (c6 : c ≤ 6) : qMet E y_Md_looks b_Md_looks 5 none 4 0 0 [.ref (qb E + 114)] S I J (rLq S I J c) := by
  have hT := hM.1
  have f4 := hM.r 3 rfl
  have g4 := hM.a 3 rfl
  have f6 := hM.r 5 rfl
  have g6 := hM.a 5 rfl
  have f42 := hM.r 26 rfl
  have g42 := hM.a 26 rfl
  have f44 := hM.r 27 rfl
  have g44 := hM.a 27 rfl
  obtain ⟨-, -, -, -, d0, hd9, hd0⟩ := id h
  refine qMet.of (L := [some (.ref (qb E + 114)), none, none, none, none]) (by decide +kernel) (Nat.le_of_ble_eq_true rfl) rfl ?_
  refine lda_n_5_0 (pc := 0) d_Md_looks_0 ?_
  refine r_iconst (pc := 1) (v := 0) d_Md_looks_1 rfl ?_
  refine p_Md_272 (pc := 2) rfl d_Md_looks_2 (by assumption) ?_
  refine r_iconst (pc := 5) (v := 0) d_Md_looks_5 rfl ?_
  refine sti_n_5_1 (pc := 6) d_Md_looks_6 rfl ?_
  rw [q0]
  have key : ∀ k, k ≤ c → ∀ (K : qI) (a2 a3 a4 : Option Value), lkI I K k (nWl (fun p => I 120 p) k) → qn2 a2 = true → qn2 a3 = true → qW E y_Md_looks b_Md_looks none 4 0 0 (rLq S I J c) 0 0 7 [some (.ref (qb E + 114)), some (.int (nI k)), a2, a3, a4] [] S K J := by
    refine qfor c ?_ ?_
    · intro K a2 a3 a4 hK n2 n3
      have e0 : K 114 0 = nI c := by rw [hK.2.1.2 0 (by decide), hc]
      refine ldi_n_5_1 (pc := 7) d_Md_looks_7 ?_
      refine lda_n_5_0 (pc := 8) d_Md_looks_8 ?_
      refine g_Md_117 (pc := 9) rfl d_Md_looks_9 (by assumption) ?_
      rw [e0]
      refine r_icmp_ge (pc := 12) (tgt := 154) d_Md_looks_12 (by decide) (fun cc => ?_) (fun cc => ?_)
      · exact r_vret d_Md_looks_154 rfl (by omega) (by omega) (⟨rfl, rfl, hK, rfl⟩)
      · exact absurd (nI_le (Nat.le_refl c) (by omega)) cc
    · intro k hk ih K a2 a3 a4 hK n2 n3
      have ek : (nI k).toNatClampNeg = k := qcl (by omega)
      have e0 : K 114 0 = nI c := by rw [hK.2.1.2 0 (by decide), hc]
      have rest : ∀ (K : qI), lkI I K k (nWl (fun p => I 120 p) (k + 1)) → qW E y_Md_looks b_Md_looks none 4 0 0 (rLq S I J c) 0 0 41 [some (.ref (qb E + 114)), some (.int (nI k)), a2, a3, a4] [] S K J := by
        intro K hK
        have e10 : K 114 10 = nI d0 := by rw [hK.2.1.2 10 (by decide), hd0]
        generalize nWl (fun p => I 120 p) (k + 1) = W at *
        refine r_iconst (pc := 41) (v := 0) d_Md_looks_41 rfl ?_
        refine sti_n_5_2 (pc := 42) d_Md_looks_42 rfl ?_
        refine lda_n_5_0 (pc := 43) d_Md_looks_43 ?_
        refine g_Md_135 (pc := 44) rfl d_Md_looks_44 (by assumption) ?_
        refine sti_n_5_3 (pc := 47) d_Md_looks_47 rfl ?_
        refine r_iconst (pc := 48) (v := 0) d_Md_looks_48 rfl ?_
        refine sti_5_4 (pc := 49) d_Md_looks_49 rfl ?_
        rw [e10]
        have jl : ∀ j, j ≤ 6 → ∀ (K : qI) (t : Nat), lkI I K k W → (∀ i, i < j → K 141 (6 * k + i) = wH (rls I) (rpn I k) i) → (j = 6 ∨ wAt (rls I) j t) → t ≤ 2 * j → qW E y_Md_looks b_Md_looks none 4 0 0 (rLq S I J c) 0 0 51 [some (.ref (qb E + 114)), some (.int (nI k)), some (.int (qsumP (rpn I k) t)), some (.int (nI (d0 + t))), some (.int (nI j))] [] S K J := by
          refine qfor 6 ?_ ?_
          · intro K t hK ht hw htj
            refine ldi_5_4 (pc := 51) d_Md_looks_51 ?_
            refine r_bipush (pc := 53) (v := 6) d_Md_looks_53 rfl ?_
            refine r_icmp_ge (pc := 55) (tgt := 148) d_Md_looks_55 (by decide) (fun cc => ?_) (fun cc => ?_)
            · refine inc_5_1 (pc := 148) (w := 1) d_Md_looks_148 rfl rfl ?_
              refine r_goto (pc := 151) (tgt := 7) d_Md_looks_151 (by decide) ?_
              rw [q1]
              refine ih K _ _ _ ⟨hK.1, hK.2.1, hK.2.2.1, hK.2.2.2.1, fun p j hp hj => ?_⟩ rfl rfl
              by_cases e : p = k
              · subst e; exact ht j hj
              · exact hK.2.2.2.2 p j (by omega) hj
            · exact absurd (show nI 6 ≤ nI 6 from by decide) cc
          · intro j hj jh K t hK ht hw htj
            have hw := hw.resolve_left (by omega)
            have e6 : 6 * nI k + nI j = nI (6 * k + j) := by rw [show (6 : Int32) = nI 6 from rfl, pk_mul, nI_add]
            have g99 : ∀ (K : qI) (t : Nat), lkI I K k W → (∀ i, i < j → K 141 (6 * k + i) = wH (rls I) (rpn I k) i) → wT (rls I) j = t → t ≤ 2 * j + 1 → qW E y_Md_looks b_Md_looks none 4 0 0 (rLq S I J c) 0 0 99 [some (.ref (qb E + 114)), some (.int (nI k)), some (.int (qsumP (rpn I k) t)), some (.int (nI (d0 + t))), some (.int (nI j))] [] S K J := by
              intro K t hK ht hw htj
              have hin : vp_in (6 * nI k + nI j) 36 := by rw [e6]; exact vp_in_nI (by omega) (by omega)
              refine lda_n_5_0 (pc := 99) d_Md_looks_99 ?_
              refine g_Md_91 (pc := 100) rfl d_Md_looks_100 (by assumption) (by assumption) ?_
              refine r_bipush (pc := 103) (v := 6) d_Md_looks_103 rfl ?_
              refine ldi_n_5_1 (pc := 105) d_Md_looks_105 ?_
              refine r_imul (pc := 106) d_Md_looks_106 ?_
              refine ldi_5_4 (pc := 107) d_Md_looks_107 ?_
              refine r_iadd (pc := 109) d_Md_looks_109 ?_
              refine ldi_n_5_2 (pc := 110) d_Md_looks_110 ?_
              refine r_iast (pc := 111) d_Md_looks_111 (by assumption) (by first | assumption | exact vp_in_nI (by omega) (by omega) | (unfold vp_in; decide)) ?_
              refine r_nmI (fun K2 hK2 => ?_)
              rw [e6, qcl (n := 6 * k + j) (by omega)] at hK2
              have l2 : lkI I K2 k W := by rw [hK2]; exact hK.put (by omega)
              have t2 : ∀ i, i < j + 1 → K2 141 (6 * k + i) = wH (rls I) (rpn I k) i := fun i hi => by
                rw [hK2]
                by_cases e : i = j
                · subst e; rw [qup_at]; unfold wH; rw [hw]
                · rw [qup_j (by omega)]; exact ht i (by omega)
              have hD2 : mDay K2 9999 := l2.1.day h
              obtain ⟨⟨n, i1, i2⟩, -⟩ := id hD2
              refine ldi_n_5_2 (pc := 112) d_Md_looks_112 ?_
              refine lda_n_5_0 (pc := 113) d_Md_looks_113 ?_
              refine ldi_n_5_1 (pc := 114) d_Md_looks_114 ?_
              refine ldi_n_5_3 (pc := 115) d_Md_looks_115 ?_
              refine r_bipush (pc := 116) (v := 99) d_Md_looks_116 rfl ?_
              refine lda_n_5_0 (pc := 118) d_Md_looks_118 ?_
              refine g_Md_21 (pc := 119) rfl d_Md_looks_119 (by assumption) (by assumption) ?_
              refine ldi_n_5_1 (pc := 122) d_Md_looks_122 ?_
              refine r_iald (pc := 123) d_Md_looks_123 (by assumption) (by first | assumption | exact vp_in_nI (by omega) (by omega) | (unfold vp_in; decide)) ?_
              refine ldi_n_5_3 (pc := 124) d_Md_looks_124 ?_
              refine r_iadd (pc := 125) d_Md_looks_125 ?_
              refine lda_n_5_0 (pc := 126) d_Md_looks_126 ?_
              refine g_Md_135 (pc := 127) rfl d_Md_looks_127 (by assumption) ?_
              refine r_isub (pc := 130) d_Md_looks_130 ?_
              rw [ek]
              refine r_callS (pc := 131) (As := [_, _]) k_Md_247 sw_jM_min rfl (by decide) d_Md_looks_131 (c_min _ _) rfl (Nat.le_of_ble_eq_true rfl) (by omega) (by omega) (by omega) (fun v S' I' J' hq => ?_)
              obtain ⟨rfl, rfl, rfl, rfl⟩ := hq
              refine r_callV (pc := 134) (As := [_, _, _]) (k := 9) (N := 56) (T := T_Md) k_Md_138 im_Md_pain se_Md_pain rfl (by decide) rfl (by decide) d_Md_looks_134 hT (c_Md_pain (dd := d0 + t) hM i1 i2 (show k < 6 by omega) rfl (by omega)) rfl (Nat.le_of_ble_eq_true rfl) (by omega) (by omega) (by omega) (fun v S' K3 J' hq => ?_)
              obtain ⟨rfl, rfl, hg, rfl⟩ := hq
              rw [rpn_at l2.2.1 hd0]
              refine r_iadd (pc := 137) d_Md_looks_137 ?_
              refine sti_n_5_2 (pc := 138) d_Md_looks_138 rfl ?_
              refine inc_5_3 (pc := 139) (w := 1) d_Md_looks_139 rfl rfl ?_
              refine inc_5_4 (pc := 142) (w := 1) d_Md_looks_142 rfl rfl ?_
              refine r_goto (pc := 145) (tgt := 51) d_Md_looks_145 (by decide) ?_
              rw [q1, q1, show qsumP (rpn I k) t + rpn I k t = qsumP (rpn I k) (t + 1) from rfl]
              refine jh K3 (t + 1) (l2.q hg) (fun i hi => by rw [hg 141 (by decide)]; exact t2 i hi) ?_ (by omega)
              by_cases j5 : j + 1 = 6
              · exact Or.inl j5
              · exact Or.inr (wAt.next hw)
            have hD : mDay K 9999 := hK.1.day h
            obtain ⟨⟨n, i1, i2⟩, -⟩ := id hD
            refine ldi_5_4 (pc := 51) d_Md_looks_51 ?_
            refine r_bipush (pc := 53) (v := 6) d_Md_looks_53 rfl ?_
            refine r_icmp_ge (pc := 55) (tgt := 148) d_Md_looks_55 (by decide) (fun cc => ?_) (fun cc => ?_)
            · exact absurd (show nI 6 ≤ nI j from cc) (nI_ge hj (by omega))
            · refine lda_n_5_0 (pc := 58) d_Md_looks_58 ?_
              refine ldi_n_5_3 (pc := 59) d_Md_looks_59 ?_
              refine r_callV (pc := 60) (As := [.int (nI (d0 + t))]) (k := 9) (N := 56) (T := T_Md) k_Md_241 im_Md_isLost se_Md_isLost rfl (by decide) rfl (by decide) d_Md_looks_60 hT (c_Md_isLost hM i1 i2) rfl (Nat.le_of_ble_eq_true rfl) (by omega) (by omega) (by omega) (fun v S' I' J' hq => ?_)
              obtain ⟨rfl, rfl, rfl, rfl⟩ := hq
              rw [rls_at hK.2.1 hd0]
              refine r_if_eq (pc := 63) (tgt := 99) d_Md_looks_63 (by decide) (fun c3 => ?_) (fun c3 => ?_)
              · have c3' : rls I t = 0 := c3
                refine g99 K t hK ht ?_ (by omega)
                rcases hw with ⟨-, q⟩ | ⟨q, -⟩
                · exact q
                · exact absurd c3' q
              · have c3' : ¬ rls I t = 0 := c3
                have hwt : wT (rls I) j = t + 1 := by
                  rcases hw with ⟨q, -⟩ | ⟨-, q⟩
                  · exact absurd q c3'
                  · exact q
                have hnl : rls I (t + 1) = 0 := by
                  unfold rls at c3' ⊢
                  rw [hd0] at c3' ⊢
                  exact qlost_twice (by omega) c3'
                refine ldi_n_5_2 (pc := 66) d_Md_looks_66 ?_
                refine lda_n_5_0 (pc := 67) d_Md_looks_67 ?_
                refine ldi_n_5_1 (pc := 68) d_Md_looks_68 ?_
                refine ldi_n_5_3 (pc := 69) d_Md_looks_69 ?_
                refine r_bipush (pc := 70) (v := 99) d_Md_looks_70 rfl ?_
                refine lda_n_5_0 (pc := 72) d_Md_looks_72 ?_
                refine g_Md_21 (pc := 73) rfl d_Md_looks_73 (by assumption) (by assumption) ?_
                refine ldi_n_5_1 (pc := 76) d_Md_looks_76 ?_
                refine r_iald (pc := 77) d_Md_looks_77 (by assumption) (by first | assumption | exact vp_in_nI (by omega) (by omega) | (unfold vp_in; decide)) ?_
                refine ldi_n_5_3 (pc := 78) d_Md_looks_78 ?_
                refine r_iadd (pc := 79) d_Md_looks_79 ?_
                refine lda_n_5_0 (pc := 80) d_Md_looks_80 ?_
                refine g_Md_135 (pc := 81) rfl d_Md_looks_81 (by assumption) ?_
                refine r_isub (pc := 84) d_Md_looks_84 ?_
                rw [ek]
                refine r_callS (pc := 85) (As := [_, _]) k_Md_247 sw_jM_min rfl (by decide) d_Md_looks_85 (c_min _ _) rfl (Nat.le_of_ble_eq_true rfl) (by omega) (by omega) (by omega) (fun v S' I' J' hq => ?_)
                obtain ⟨rfl, rfl, rfl, rfl⟩ := hq
                refine r_callV (pc := 88) (As := [_, _, _]) (k := 9) (N := 56) (T := T_Md) k_Md_138 im_Md_pain se_Md_pain rfl (by decide) rfl (by decide) d_Md_looks_88 hT (c_Md_pain (dd := d0 + t) hM i1 i2 (show k < 6 by omega) rfl (by omega)) rfl (Nat.le_of_ble_eq_true rfl) (by omega) (by omega) (by omega) (fun v S' K3 J' hq => ?_)
                obtain ⟨rfl, rfl, hg, rfl⟩ := hq
                rw [rpn_at hK.2.1 hd0]
                have l3 := hK.q hg
                have hD3 : mDay K3 9999 := l3.1.day h
                obtain ⟨⟨n3, j1, j2⟩, -⟩ := id hD3
                refine r_iadd (pc := 91) d_Md_looks_91 ?_
                refine sti_n_5_2 (pc := 92) d_Md_looks_92 rfl ?_
                refine inc_5_3 (pc := 93) (w := 1) d_Md_looks_93 rfl rfl ?_
                refine r_goto (pc := 96) (tgt := 58) d_Md_looks_96 (by decide) ?_
                refine lda_n_5_0 (pc := 58) d_Md_looks_58 ?_
                refine ldi_n_5_3 (pc := 59) d_Md_looks_59 ?_
                rw [q1, show qsumP (rpn I k) t + rpn I k t = qsumP (rpn I k) (t + 1) from rfl]
                refine r_callV (pc := 60) (As := [.int (nI (d0 + t + 1))]) (k := 9) (N := 56) (T := T_Md) k_Md_241 im_Md_isLost se_Md_isLost rfl (by decide) rfl (by decide) d_Md_looks_60 hT (c_Md_isLost hM j1 j2) rfl (Nat.le_of_ble_eq_true rfl) (by omega) (by omega) (by omega) (fun v S' I' J' hq => ?_)
                obtain ⟨rfl, rfl, rfl, rfl⟩ := hq
                have e3 := rls_at (t := t + 1) l3.2.1 hd0
                rw [← Nat.add_assoc, hnl] at e3
                rw [e3]
                refine r_if_eq (pc := 63) (tgt := 99) d_Md_looks_63 (by decide) (fun c4 => ?_) (fun c4 => ?_)
                · exact g99 K3 (t + 1) l3 (fun i hi => by rw [hg 141 (by decide)]; exact ht i hi) hwt (by omega)
                · exact absurd rfl c4
        exact jl 0 (by omega) K 0 hK (fun i hi => absurd hi (Nat.not_lt_zero _)) (Or.inr wAt.zero) (by omega)
      have zl := nWl_len (f := fun p => I 120 p) k
      have hs : nWl (fun p => I 120 p) (k + 1) = nWl (fun p => I 120 p) k ++ (if I 120 k = 0 then [k] else []) := rfl
      refine ldi_n_5_1 (pc := 7) d_Md_looks_7 ?_
      refine lda_n_5_0 (pc := 8) d_Md_looks_8 ?_
      refine g_Md_117 (pc := 9) rfl d_Md_looks_9 (by assumption) ?_
      rw [e0]
      refine r_icmp_ge (pc := 12) (tgt := 154) d_Md_looks_12 (by decide) (fun cc => ?_) (fun cc => ?_)
      · exact absurd cc (nI_ge hk (by omega))
      · refine lda_n_5_0 (pc := 15) d_Md_looks_15 ?_
        refine g_Md_27 (pc := 16) rfl d_Md_looks_16 (by assumption) (by assumption) ?_
        refine ldi_n_5_1 (pc := 19) d_Md_looks_19 ?_
        refine r_iald (pc := 20) d_Md_looks_20 (by assumption) (by first | assumption | exact vp_in_nI (by omega) (by omega) | (unfold vp_in; decide)) ?_
        rw [ek, hK.2.1.1 120 (by decide) (by decide) (by decide) (by decide)]
        refine r_if_ne (pc := 21) (tgt := 41) d_Md_looks_21 (by decide) (fun c2 => ?_) (fun c2 => ?_)
        · rw [if_neg c2, List.append_nil] at hs
          exact rest K (by rw [hs]; exact hK)
        · have c2' : I 120 k = 0 := by
            first | exact c2 | exact Decidable.not_not.mp c2
          rw [if_pos c2'] at hs
          generalize nWl (fun p => I 120 p) k = W at *
          have hin : vp_in (nI W.length) 6 := vp_in_nI (by omega) (by omega)
          have ez : (nI W.length).toNatClampNeg = W.length := qcl (by omega)
          obtain ⟨k1, k2, k3, k4, k5⟩ := hK
          refine lda_n_5_0 (pc := 24) d_Md_looks_24 ?_
          refine g_Md_94 (pc := 25) rfl d_Md_looks_25 (by assumption) (by assumption) ?_
          refine lda_n_5_0 (pc := 28) d_Md_looks_28 ?_
          refine r_dup (pc := 29) d_Md_looks_29 rfl ?_
          refine g_Md_272 (pc := 30) rfl d_Md_looks_30 (by assumption) ?_
          rw [k3]
          refine r_dup_x1 (pc := 33) d_Md_looks_33 rfl rfl ?_
          refine r_iconst (pc := 34) (v := 1) d_Md_looks_34 rfl ?_
          refine r_iadd (pc := 35) d_Md_looks_35 ?_
          refine p_Md_272 (pc := 36) rfl d_Md_looks_36 (by assumption) ?_
          refine ldi_n_5_1 (pc := 39) d_Md_looks_39 ?_
          refine r_iast (pc := 40) d_Md_looks_40 (by assumption) (by first | assumption | exact vp_in_nI (by omega) (by omega) | (unfold vp_in; decide)) ?_
          rw [ez, q1]
          refine r_nmI (fun K2 hK2 => ?_)
          refine rest K2 ?_
          rw [hs, hK2]
          refine ⟨(k1.tr (mSame.f (Or.inl rfl))).tr (mSame.sc (Or.inr (by decide))), (k2.tr mLk.f).tr (mLk.sc (Or.inr rfl)), by rw [qup_o (by decide), qup_at, List.length_append]; rfl, fun i hi => ?_, fun p j a b => by rw [qup_o (by decide), qup_o (by decide)]; exact k5 p j a b⟩
          rw [List.length_append] at hi
          by_cases e : i < W.length
          · rw [qup_j (by omega), qup_o (by decide), getD_app e]; exact k4 i e
          · have : i = W.length := by simp at hi; omega
            subst this
            rw [qup_at, getD_end]
  exact key 0 (by omega) _ none none none ⟨mSame.f (Or.inl rfl), mLk.f, by rw [qup_at]; rfl, fun i hi => absurd hi (Nat.not_lt_zero _), fun p j hp => absurd hp (Nat.not_lt_zero _)⟩ rfl rfl
end T6
