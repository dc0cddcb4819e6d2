/-! what each hurts by each place: which cells are touched -/
theorem qlost_once {n : Int32} {dd : Nat} (h : dd + 2 < 2 ^ 31) (h1 : ¬ qlost n (nI dd) = 0) : qlost n (nI (dd + 1)) = 0 := by
  unfold qlost at h1 ⊢
  by_cases hn : 1 < n
  · rw [if_pos hn] at h1 ⊢
    have h0 : ¬ n < 0 := fun q => absurd (Int32.lt_trans q (show (0 : Int32) < 1 by decide)) (Int32.not_lt.mpr (Int32.le_of_lt hn))
    obtain ⟨m, hm, rfl⟩ := nI_of h0
    have hm2 : 1 < m := by
      rcases Nat.lt_or_ge 1 m with q | q
      · exact q
      · exact absurd hn (nI_nlt (a := 1) (b := m) q (by omega))
    rw [q1, pk_rem (by omega) (by omega) hm] at h1
    rw [q1, pk_rem (by omega) (by omega) hm]
    rw [if_neg]
    intro e
    have e1 : (dd + 1) % m = 0 := by
      rcases Nat.eq_zero_or_pos ((dd + 1) % m) with q | q
      · exact q
      · exact absurd (if_neg (nI_ne0 q (by have := Nat.mod_lt (dd + 1) (show m > 0 by omega); omega))) h1
    have e2 : (dd + 1 + 1) % m = 0 := by
      rcases Nat.eq_zero_or_pos ((dd + 1 + 1) % m) with q | q
      · exact q
      · exact absurd e (nI_ne0 q (by have := Nat.mod_lt (dd + 1 + 1) (show m > 0 by omega); omega))
    have d1 := Nat.dvd_of_mod_eq_zero e1
    have d2 := Nat.dvd_of_mod_eq_zero e2
    have d3 : m ∣ 1 := (Nat.dvd_add_right d1).mp d2
    have := Nat.le_of_dvd (by decide) d3
    omega
  · rw [if_neg hn]
/-- who is left, as far as it is told -/
def mLeft (K : qI) (z : Nat) : Prop := K 114 43 = nI z ∧ z ≤ 6 ∧ ∀ i, i < z → ∃ p, p < 6 ∧ K 142 i = nI p
theorem mSame.q130 {I K : qI} (h : q130 I K) : mSame I K := mSame.only h (fun a ha => Or.inl ha)
theorem mSame.sc {I : qI} {a j : Nat} {x : Int32} (h : a = 130 ∨ (140 ≤ a ∧ a ≤ 144)) : mSame I (qup I a j x) := mSame.only (P := fun b => b = a) (qOnly.up qOnly.rf rfl) (fun b hb => by subst hb; exact h)
section G7
variable {E : qE} {S : qSh} {I : qI} {J : qJ}
theorem c_Md_looks (hM : isMd S) (h : mDay I 9999) : qMet E y_Md_looks b_Md_looks 5 none 4 0 0 [.ref (qb E + 114)] S I J (fun v S' I' J' => v = none ∧ S = S' ∧ mSame I I' ∧ (∃ z, mLeft I' z) ∧ J = J') := by
  have hT := hM.1
  have f4 := hM.r 3 rfl
  have g4 := hM.a 3 rfl
  have f6 := hM.r 5 rfl
  have g6 := hM.a 5 rfl
  have f42 := hM.r 26 rfl
  have g42 := hM.a 26 rfl
  have f44 := hM.r 27 rfl
  have g44 := hM.a 27 rfl
  obtain ⟨-, ⟨c, c6, hc⟩, -, -, d0, hd9, hd0⟩ := id h
  refine qMet.of (L := [some (.ref (qb E + 114)), none, none, none, none]) (by decide +kernel) (Nat.le_of_ble_eq_true rfl) rfl ?_
  refine lda_n_5_0 (pc := 0) d_Md_looks_0 ?_
  refine r_iconst (pc := 1) (v := 0) d_Md_looks_1 rfl ?_
  refine p_Md_272 (pc := 2) rfl d_Md_looks_2 (by assumption) ?_
  refine r_iconst (pc := 5) (v := 0) d_Md_looks_5 rfl ?_
  refine sti_n_5_1 (pc := 6) d_Md_looks_6 rfl ?_
  rw [q0]
  have key : ∀ k, k ≤ c → ∀ (K : qI) (z : Nat) (a2 a3 a4 : Option Value), mSame I K → mLeft K z → z ≤ k → qn2 a2 = true → qn2 a3 = true → qW E y_Md_looks b_Md_looks none 4 0 0 (fun v S' I' J' => v = none ∧ S = S' ∧ mSame I I' ∧ (∃ z, mLeft I' z) ∧ J = J') 0 0 7 [some (.ref (qb E + 114)), some (.int (nI k)), a2, a3, a4] [] S K J := by
    refine qfor c ?_ ?_
    · intro K z a2 a3 a4 hK hz hzk n2 n3
      have e0 : K 114 0 = nI c := by have := hK.1 117 (by decide); rw [kp_f0, kp_f0] at this; rw [this, hc]
      refine ldi_n_5_1 (pc := 7) d_Md_looks_7 ?_
      refine lda_n_5_0 (pc := 8) d_Md_looks_8 ?_
      refine g_Md_117 (pc := 9) rfl d_Md_looks_9 (by assumption) ?_
      rw [e0]
      refine r_icmp_ge (pc := 12) (tgt := 154) d_Md_looks_12 (by decide) (fun cc => ?_) (fun cc => ?_)
      · exact r_vret d_Md_looks_154 rfl (by omega) (by omega) (⟨rfl, rfl, hK, ⟨z, hz⟩, rfl⟩)
      · exact absurd (nI_le (Nat.le_refl c) (by omega)) cc
    · intro k hk ih K z a2 a3 a4 hK hz hzk n2 n3
      have ek : (nI k).toNatClampNeg = k := qcl (by omega)
      have e0 : K 114 0 = nI c := by have := hK.1 117 (by decide); rw [kp_f0, kp_f0] at this; rw [this, hc]
      have rest : ∀ (K : qI) (z : Nat), mSame I K → mLeft K z → z ≤ k + 1 → qW E y_Md_looks b_Md_looks none 4 0 0 (fun v S' I' J' => v = none ∧ S = S' ∧ mSame I I' ∧ (∃ z, mLeft I' z) ∧ J = J') 0 0 41 [some (.ref (qb E + 114)), some (.int (nI k)), a2, a3, a4] [] S K J := by
        intro K z hK hz hzk
        have e10 : K 114 10 = nI d0 := by have := hK.1 119 (by decide); rw [kp_f10, kp_f10] at this; rw [this, hd0]
        refine r_iconst (pc := 41) (v := 0) d_Md_looks_41 rfl ?_
        refine sti_n_5_2 (pc := 42) d_Md_looks_42 rfl ?_
        refine lda_n_5_0 (pc := 43) d_Md_looks_43 ?_
        refine g_Md_135 (pc := 44) rfl d_Md_looks_44 (by assumption) ?_
        refine sti_n_5_3 (pc := 47) d_Md_looks_47 rfl ?_
        refine r_iconst (pc := 48) (v := 0) d_Md_looks_48 rfl ?_
        refine sti_5_4 (pc := 49) d_Md_looks_49 rfl ?_
        rw [e10, q0]
        have jl : ∀ j, j ≤ 6 → ∀ (K : qI) (dd : Nat) (s : Int32), mSame I K → mLeft K z → dd ≤ d0 + 2 * j → qW E y_Md_looks b_Md_looks none 4 0 0 (fun v S' I' J' => v = none ∧ S = S' ∧ mSame I I' ∧ (∃ z, mLeft I' z) ∧ J = J') 0 0 51 [some (.ref (qb E + 114)), some (.int (nI k)), some (.int s), some (.int (nI dd)), some (.int (nI j))] [] S K J := by
          refine qfor 6 ?_ ?_
          · intro K dd s hK hz hdd
            refine ldi_5_4 (pc := 51) d_Md_looks_51 ?_
            refine r_bipush (pc := 53) (v := 6) d_Md_looks_53 rfl ?_
            refine r_icmp_ge (pc := 55) (tgt := 148) d_Md_looks_55 (by decide) (fun cc => ?_) (fun cc => ?_)
            · refine inc_5_1 (pc := 148) (w := 1) d_Md_looks_148 rfl rfl ?_
              refine r_goto (pc := 151) (tgt := 7) d_Md_looks_151 (by decide) ?_
              rw [q1]
              exact ih K z _ _ _ hK hz hzk rfl rfl
            · exact absurd (show nI 6 ≤ nI 6 from by decide) cc
          · intro j hj jh K dd s hK hz hdd
            have g99 : ∀ (K : qI) (dd : Nat) (s : Int32), mSame I K → mLeft K z → dd ≤ d0 + 2 * j + 1 → qW E y_Md_looks b_Md_looks none 4 0 0 (fun v S' I' J' => v = none ∧ S = S' ∧ mSame I I' ∧ (∃ z, mLeft I' z) ∧ J = J') 0 0 99 [some (.ref (qb E + 114)), some (.int (nI k)), some (.int s), some (.int (nI dd)), some (.int (nI j))] [] S K J := by
              intro K dd s hK hz hdd
              have hin : vp_in (6 * nI k + nI j) 36 := by
                rw [show (6 : Int32) = nI 6 from rfl, pk_mul, nI_add]; exact vp_in_nI (by omega) (by omega)
              refine lda_n_5_0 (pc := 99) d_Md_looks_99 ?_
              refine g_Md_91 (pc := 100) rfl d_Md_looks_100 (by assumption) (by assumption) ?_
              refine r_bipush (pc := 103) (v := 6) d_Md_looks_103 rfl ?_
              refine ldi_n_5_1 (pc := 105) d_Md_looks_105 ?_
              refine r_imul (pc := 106) d_Md_looks_106 ?_
              refine ldi_5_4 (pc := 107) d_Md_looks_107 ?_
              refine r_iadd (pc := 109) d_Md_looks_109 ?_
              refine ldi_n_5_2 (pc := 110) d_Md_looks_110 ?_
              refine r_iast (pc := 111) d_Md_looks_111 (by assumption) (by first | assumption | exact vp_in_nI (by omega) (by omega) | (unfold vp_in; decide)) ?_
              refine r_nmI (fun K2 hK2 => ?_)
              have s2 : mSame I K2 := by rw [hK2]; exact hK.tr (mSame.sc (Or.inr (by decide)))
              have z2 : mLeft K2 z := by rw [hK2]; exact ⟨by rw [qup_o (by decide)]; exact hz.1, hz.2.1, fun i hi => by rw [qup_o (by decide)]; exact hz.2.2 i hi⟩
              have hD2 : mDay K2 9999 := s2.day h
              obtain ⟨⟨n, i1, i2⟩, -⟩ := id hD2
              refine ldi_n_5_2 (pc := 112) d_Md_looks_112 ?_
              refine lda_n_5_0 (pc := 113) d_Md_looks_113 ?_
              refine ldi_n_5_1 (pc := 114) d_Md_looks_114 ?_
              refine ldi_n_5_3 (pc := 115) d_Md_looks_115 ?_
              refine r_bipush (pc := 116) (v := 99) d_Md_looks_116 rfl ?_
              refine lda_n_5_0 (pc := 118) d_Md_looks_118 ?_
              refine g_Md_21 (pc := 119) rfl d_Md_looks_119 (by assumption) (by assumption) ?_
              refine ldi_n_5_1 (pc := 122) d_Md_looks_122 ?_
              refine r_iald (pc := 123) d_Md_looks_123 (by assumption) (by first | assumption | exact vp_in_nI (by omega) (by omega) | (unfold vp_in; decide)) ?_
              refine ldi_n_5_3 (pc := 124) d_Md_looks_124 ?_
              refine r_iadd (pc := 125) d_Md_looks_125 ?_
              refine lda_n_5_0 (pc := 126) d_Md_looks_126 ?_
              refine g_Md_135 (pc := 127) rfl d_Md_looks_127 (by assumption) ?_
              refine r_isub (pc := 130) d_Md_looks_130 ?_
              rw [ek]
              refine r_callS (pc := 131) (As := [_, _]) k_Md_247 sw_jM_min rfl (by decide) d_Md_looks_131 (c_min _ _) rfl (Nat.le_of_ble_eq_true rfl) (by omega) (by omega) (by omega) (fun v S' I' J' hq => ?_)
              obtain ⟨rfl, rfl, rfl, rfl⟩ := hq
              refine r_callV (pc := 134) (As := [_, _, _]) (k := 9) (N := 56) (T := T_Md) k_Md_138 im_Md_pain se_Md_pain rfl (by decide) rfl (by decide) d_Md_looks_134 hT (c_Md_pain (dd := dd) hM i1 i2 (show k < 6 by omega) rfl (by omega)) rfl (Nat.le_of_ble_eq_true rfl) (by omega) (by omega) (by omega) (fun v S' K3 J' hq => ?_)
              obtain ⟨rfl, rfl, hg, rfl⟩ := hq
              refine r_iadd (pc := 137) d_Md_looks_137 ?_
              refine sti_n_5_2 (pc := 138) d_Md_looks_138 rfl ?_
              refine inc_5_3 (pc := 139) (w := 1) d_Md_looks_139 rfl rfl ?_
              refine inc_5_4 (pc := 142) (w := 1) d_Md_looks_142 rfl rfl ?_
              refine r_goto (pc := 145) (tgt := 51) d_Md_looks_145 (by decide) ?_
              rw [q1, q1]
              exact jh K3 (dd + 1) _ (s2.tr (mSame.q130 hg)) ⟨by rw [hg 114 (by decide)]; exact z2.1, z2.2.1, fun i hi => by rw [hg 142 (by decide)]; exact z2.2.2 i hi⟩ (by omega)
            have hD : mDay K 9999 := hK.day h
            obtain ⟨⟨n, i1, i2⟩, -⟩ := id hD
            refine ldi_5_4 (pc := 51) d_Md_looks_51 ?_
            refine r_bipush (pc := 53) (v := 6) d_Md_looks_53 rfl ?_
            refine r_icmp_ge (pc := 55) (tgt := 148) d_Md_looks_55 (by decide) (fun cc => ?_) (fun cc => ?_)
            · exact absurd (show nI 6 ≤ nI j from cc) (nI_ge hj (by omega))
            · refine lda_n_5_0 (pc := 58) d_Md_looks_58 ?_
              refine ldi_n_5_3 (pc := 59) d_Md_looks_59 ?_
              refine r_callV (pc := 60) (As := [.int (nI dd)]) (k := 9) (N := 56) (T := T_Md) k_Md_241 im_Md_isLost se_Md_isLost rfl (by decide) rfl (by decide) d_Md_looks_60 hT (c_Md_isLost hM i1 i2) rfl (Nat.le_of_ble_eq_true rfl) (by omega) (by omega) (by omega) (fun v S' I' J' hq => ?_)
              obtain ⟨rfl, rfl, rfl, rfl⟩ := hq
              refine r_if_eq (pc := 63) (tgt := 99) d_Md_looks_63 (by decide) (fun c3 => ?_) (fun c3 => ?_)
              · exact g99 K dd s hK hz (by omega)
              · have hnl := qlost_once (n := mlost K) (by omega) c3
                refine ldi_n_5_2 (pc := 66) d_Md_looks_66 ?_
                refine lda_n_5_0 (pc := 67) d_Md_looks_67 ?_
                refine ldi_n_5_1 (pc := 68) d_Md_looks_68 ?_
                refine ldi_n_5_3 (pc := 69) d_Md_looks_69 ?_
                refine r_bipush (pc := 70) (v := 99) d_Md_looks_70 rfl ?_
                refine lda_n_5_0 (pc := 72) d_Md_looks_72 ?_
                refine g_Md_21 (pc := 73) rfl d_Md_looks_73 (by assumption) (by assumption) ?_
                refine ldi_n_5_1 (pc := 76) d_Md_looks_76 ?_
                refine r_iald (pc := 77) d_Md_looks_77 (by assumption) (by first | assumption | exact vp_in_nI (by omega) (by omega) | (unfold vp_in; decide)) ?_
                refine ldi_n_5_3 (pc := 78) d_Md_looks_78 ?_
                refine r_iadd (pc := 79) d_Md_looks_79 ?_
                refine lda_n_5_0 (pc := 80) d_Md_looks_80 ?_
                refine g_Md_135 (pc := 81) rfl d_Md_looks_81 (by assumption) ?_
                refine r_isub (pc := 84) d_Md_looks_84 ?_
                rw [ek]
                refine r_callS (pc := 85) (As := [_, _]) k_Md_247 sw_jM_min rfl (by decide) d_Md_looks_85 (c_min _ _) rfl (Nat.le_of_ble_eq_true rfl) (by omega) (by omega) (by omega) (fun v S' I' J' hq => ?_)
                obtain ⟨rfl, rfl, rfl, rfl⟩ := hq
                refine r_callV (pc := 88) (As := [_, _, _]) (k := 9) (N := 56) (T := T_Md) k_Md_138 im_Md_pain se_Md_pain rfl (by decide) rfl (by decide) d_Md_looks_88 hT (c_Md_pain (dd := dd) hM i1 i2 (show k < 6 by omega) rfl (by omega)) rfl (Nat.le_of_ble_eq_true rfl) (by omega) (by omega) (by omega) (fun v S' K3 J' hq => ?_)
                obtain ⟨rfl, rfl, hg, rfl⟩ := hq
                have s3 : mSame I K3 := hK.tr (mSame.q130 hg)
                have hD3 : mDay K3 9999 := s3.day h
                obtain ⟨⟨n3, j1, j2⟩, -⟩ := id hD3
                refine r_iadd (pc := 91) d_Md_looks_91 ?_
                refine sti_n_5_2 (pc := 92) d_Md_looks_92 rfl ?_
                refine inc_5_3 (pc := 93) (w := 1) d_Md_looks_93 rfl rfl ?_
                refine r_goto (pc := 96) (tgt := 58) d_Md_looks_96 (by decide) ?_
                refine lda_n_5_0 (pc := 58) d_Md_looks_58 ?_
                refine ldi_n_5_3 (pc := 59) d_Md_looks_59 ?_
                rw [q1]
                refine r_callV (pc := 60) (As := [.int (nI (dd + 1))]) (k := 9) (N := 56) (T := T_Md) k_Md_241 im_Md_isLost se_Md_isLost rfl (by decide) rfl (by decide) d_Md_looks_60 hT (c_Md_isLost hM j1 j2) rfl (Nat.le_of_ble_eq_true rfl) (by omega) (by omega) (by omega) (fun v S' I' J' hq => ?_)
                obtain ⟨rfl, rfl, rfl, rfl⟩ := hq
                rw [mlost_only hg, hnl]
                refine r_if_eq (pc := 63) (tgt := 99) d_Md_looks_63 (by decide) (fun c4 => ?_) (fun c4 => ?_)
                · exact g99 K3 (dd + 1) _ s3 ⟨by rw [hg 114 (by decide)]; exact hz.1, hz.2.1, fun i hi => by rw [hg 142 (by decide)]; exact hz.2.2 i hi⟩ (by omega)
                · exact absurd rfl c4
        exact jl 0 (by omega) K d0 _ hK hz (by omega)
      refine ldi_n_5_1 (pc := 7) d_Md_looks_7 ?_
      refine lda_n_5_0 (pc := 8) d_Md_looks_8 ?_
      refine g_Md_117 (pc := 9) rfl d_Md_looks_9 (by assumption) ?_
      rw [e0]
      refine r_icmp_ge (pc := 12) (tgt := 154) d_Md_looks_12 (by decide) (fun cc => ?_) (fun cc => ?_)
      · exact absurd cc (nI_ge hk (by omega))
      · refine lda_n_5_0 (pc := 15) d_Md_looks_15 ?_
        refine g_Md_27 (pc := 16) rfl d_Md_looks_16 (by assumption) (by assumption) ?_
        refine ldi_n_5_1 (pc := 19) d_Md_looks_19 ?_
        refine r_iald (pc := 20) d_Md_looks_20 (by assumption) (by first | assumption | exact vp_in_nI (by omega) (by omega) | (unfold vp_in; decide)) ?_
        refine r_if_ne (pc := 21) (tgt := 41) d_Md_looks_21 (by decide) (fun c2 => ?_) (fun c2 => ?_)
        · exact rest K z hK hz (by omega)
        · have hz6 : z < 6 := by omega
          have hin : vp_in (nI z) 6 := vp_in_nI hz6 (by omega)
          have ez : (nI z).toNatClampNeg = z := qcl (by omega)
          refine lda_n_5_0 (pc := 24) d_Md_looks_24 ?_
          refine g_Md_94 (pc := 25) rfl d_Md_looks_25 (by assumption) (by assumption) ?_
          refine lda_n_5_0 (pc := 28) d_Md_looks_28 ?_
          refine r_dup (pc := 29) d_Md_looks_29 rfl ?_
          refine g_Md_272 (pc := 30) rfl d_Md_looks_30 (by assumption) ?_
          rw [hz.1]
          refine r_dup_x1 (pc := 33) d_Md_looks_33 rfl rfl ?_
          refine r_iconst (pc := 34) (v := 1) d_Md_looks_34 rfl ?_
          refine r_iadd (pc := 35) d_Md_looks_35 ?_
          refine p_Md_272 (pc := 36) rfl d_Md_looks_36 (by assumption) ?_
          refine ldi_n_5_1 (pc := 39) d_Md_looks_39 ?_
          refine r_iast (pc := 40) d_Md_looks_40 (by assumption) (by first | assumption | exact vp_in_nI (by omega) (by omega) | (unfold vp_in; decide)) ?_
          rw [ez, q1]
          refine r_nmI (fun K2 hK2 => ?_)
          refine rest K2 (z + 1) (by rw [hK2]; exact (hK.tr (mSame.f (Or.inl rfl))).tr (mSame.sc (Or.inr (by decide)))) ⟨by rw [hK2, qup_o (by decide), qup_at], by omega, fun i hi => ?_⟩ (by omega)
          rw [hK2]
          by_cases e : i = z
          · subst e; rw [qup_at]; exact ⟨k, by omega, rfl⟩
          · rw [qup_j e, qup_o (by decide)]; exact hz.2.2 i (by omega)
  exact key 0 (by omega) _ 0 none none none (mSame.f (Or.inl rfl)) ⟨by rw [qup_at, nI_0], by omega, fun i hi => absurd hi (Nat.not_lt_zero _)⟩ (by omega) rfl rfl
theorem c_Md_turnOf {p l : Nat} (hM : isMd S) (hp : p < 6) (hl : I 114 8 = nI l) (h6 : l ≤ 6) (hL : ∀ k, k < 6 → ∃ p, p < 6 ∧ I 122 k = nI p) : qMet E y_Md_turnOf b_Md_turnOf 4 (some .int) 0 0 0 [.ref (qb E + 114), .int (nI p)] S I J (fun v S' I' J' => (∃ r, v = some (.int r) ∧ (r = -5 ∨ ∃ j, j < 6 ∧ r = nI j)) ∧ S = S' ∧ I = I' ∧ J = J') := by
  have hT := hM.1
  have f6 := hM.r 5 rfl
  have g6 := hM.a 5 rfl
  have f9 := hM.r 7 rfl
  have g9 := hM.a 7 rfl
  have hinp : vp_in (nI p) 6 := vp_in_nI hp (by omega)
  refine qMet.of (L := [some (.ref (qb E + 114)), some (.int (nI p)), none, none]) (by decide +kernel) (Nat.le_of_ble_eq_true rfl) rfl ?_
  refine r_iconst (pc := 0) (v := 0) d_Md_turnOf_0 rfl ?_
  refine sti_n_4_2 (pc := 1) d_Md_turnOf_1 rfl ?_
  refine r_iconst (pc := 2) (v := 0) d_Md_turnOf_2 rfl ?_
  refine sti_n_4_3 (pc := 3) d_Md_turnOf_3 rfl ?_
  rw [q0]
  have key : ∀ k, k ≤ l → ∀ j, j ≤ k → qW E y_Md_turnOf b_Md_turnOf (some .int) 0 0 0 (fun v S' I' J' => (∃ r, v = some (.int r) ∧ (r = -5 ∨ ∃ j, j < 6 ∧ r = nI j)) ∧ S = S' ∧ I = I' ∧ J = J') 0 0 4 [some (.ref (qb E + 114)), some (.int (nI p)), some (.int (nI j)), some (.int (nI k))] [] S I J := by
    refine qfor l ?_ ?_
    · intro j hj
      refine ldi_n_4_3 (pc := 4) d_Md_turnOf_4 ?_
      refine lda_n_4_0 (pc := 5) d_Md_turnOf_5 ?_
      refine g_Md_124 (pc := 6) rfl d_Md_turnOf_6 (by assumption) ?_
      rw [hl]
      refine r_icmp_ge (pc := 9) (tgt := 61) d_Md_turnOf_9 (by decide) (fun cc => ?_) (fun cc => ?_)
      · refine r_bipush (pc := 61) (v := (-5)) d_Md_turnOf_61 rfl ?_
        exact r_iret d_Md_turnOf_63 rfl (by omega) (by omega) (⟨⟨_, rfl, Or.inl rfl⟩, rfl, rfl, rfl⟩)
      · exact absurd (nI_le (Nat.le_refl l) (by omega)) cc
    · intro k hk ih j hj
      obtain ⟨w, hw, ew⟩ := hL k (by omega)
      have ek : (nI k).toNatClampNeg = k := qcl (by omega)
      have hinw : vp_in (nI w) 6 := vp_in_nI hw (by omega)
      refine ldi_n_4_3 (pc := 4) d_Md_turnOf_4 ?_
      refine lda_n_4_0 (pc := 5) d_Md_turnOf_5 ?_
      refine g_Md_124 (pc := 6) rfl d_Md_turnOf_6 (by assumption) ?_
      rw [hl]
      refine r_icmp_ge (pc := 9) (tgt := 61) d_Md_turnOf_9 (by decide) (fun cc => ?_) (fun cc => ?_)
      · exact absurd cc (nI_ge hk (by omega))
      · refine lda_n_4_0 (pc := 12) d_Md_turnOf_12 ?_
        refine g_Md_33 (pc := 13) rfl d_Md_turnOf_13 (by assumption) (by assumption) ?_
        refine ldi_n_4_3 (pc := 16) d_Md_turnOf_16 ?_
        refine r_iald (pc := 17) d_Md_turnOf_17 (by assumption) (by first | assumption | exact vp_in_nI (by omega) (by omega) | (unfold vp_in; decide)) ?_
        refine ldi_n_4_1 (pc := 18) d_Md_turnOf_18 ?_
        refine r_icmp_ne (pc := 19) (tgt := 38) d_Md_turnOf_19 (by decide) (fun c2 => ?_) (fun c2 => ?_)
        · refine lda_n_4_0 (pc := 38) d_Md_turnOf_38 ?_
          refine g_Md_27 (pc := 39) rfl d_Md_turnOf_39 (by assumption) (by assumption) ?_
          refine lda_n_4_0 (pc := 42) d_Md_turnOf_42 ?_
          refine g_Md_33 (pc := 43) rfl d_Md_turnOf_43 (by assumption) (by assumption) ?_
          refine ldi_n_4_3 (pc := 46) d_Md_turnOf_46 ?_
          refine r_iald (pc := 47) d_Md_turnOf_47 (by assumption) (by first | assumption | exact vp_in_nI (by omega) (by omega) | (unfold vp_in; decide)) ?_
          rw [ek, ew]
          refine r_iald (pc := 48) d_Md_turnOf_48 (by assumption) (by first | assumption | exact vp_in_nI (by omega) (by omega) | (unfold vp_in; decide)) ?_
          refine r_if_ne (pc := 49) (tgt := 55) d_Md_turnOf_49 (by decide) (fun c3 => ?_) (fun c3 => ?_)
          · refine inc_4_3 (pc := 55) (w := 1) d_Md_turnOf_55 rfl rfl ?_
            refine r_goto (pc := 58) (tgt := 4) d_Md_turnOf_58 (by decide) ?_
            rw [q1]
            exact ih j (by omega)
          · refine inc_4_2 (pc := 52) (w := 1) d_Md_turnOf_52 rfl rfl ?_
            refine inc_4_3 (pc := 55) (w := 1) d_Md_turnOf_55 rfl rfl ?_
            refine r_goto (pc := 58) (tgt := 4) d_Md_turnOf_58 (by decide) ?_
            rw [q1, q1]
            exact ih (j + 1) (by omega)
        · refine lda_n_4_0 (pc := 22) d_Md_turnOf_22 ?_
          refine g_Md_27 (pc := 23) rfl d_Md_turnOf_23 (by assumption) (by assumption) ?_
          refine ldi_n_4_1 (pc := 26) d_Md_turnOf_26 ?_
          refine r_iald (pc := 27) d_Md_turnOf_27 (by assumption) (by first | assumption | exact vp_in_nI (by omega) (by omega) | (unfold vp_in; decide)) ?_
          refine r_if_ne (pc := 28) (tgt := 35) d_Md_turnOf_28 (by decide) (fun c3 => ?_) (fun c3 => ?_)
          · refine r_bipush (pc := 35) (v := (-5)) d_Md_turnOf_35 rfl ?_
            exact r_iret d_Md_turnOf_37 rfl (by omega) (by omega) (⟨⟨_, rfl, Or.inl rfl⟩, rfl, rfl, rfl⟩)
          · refine ldi_n_4_2 (pc := 31) d_Md_turnOf_31 ?_
            refine r_goto (pc := 32) (tgt := 37) d_Md_turnOf_32 (by decide) ?_
            exact r_iret d_Md_turnOf_37 rfl (by omega) (by omega) (⟨⟨_, rfl, Or.inr ⟨j, by omega, rfl⟩⟩, rfl, rfl, rfl⟩)
  exact key 0 (by omega) 0 (by omega)
end G7
