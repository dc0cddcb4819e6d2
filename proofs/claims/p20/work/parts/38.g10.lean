/-! who agrees, who is dear, what is seen, what can be, what is told, looked at, judged -/
def mca (x : Int32) : Nat := if x = 0 then 117 else if x = 1 then 118 else 116
def qCanR (I : qI) (a p : Nat) (K : qI) : Prop := (∀ b, b ≠ 130 → b ≠ a → K b = I b) ∧ ∀ j, j ≠ p → K a j = I a j
theorem qCanR.q {I K K2 : qI} {a p : Nat} (h : qCanR I a p K) (ha : a ≠ 130) (h2 : q130 K K2) : qCanR I a p K2 := ⟨fun b hb hc => (h2 b hb).trans (h.1 b hb hc), fun j hj => by rw [h2 a ha]; exact h.2 j hj⟩
theorem qCanR.up {I K : qI} {a p : Nat} {x : Int32} (h : qCanR I a p K) : qCanR I a p (qup K a p x) := ⟨fun b hb hc => by rw [qup_row hc]; exact h.1 b hb hc, fun j hj => by rw [qup_j hj]; exact h.2 j hj⟩
theorem qCanR.back {I K : qI} {a p : Nat} (h : qCanR I a p K) : q130 I (qup K a p (I a p)) := fun b hb => by
  by_cases e : b = a
  · subst e
    funext j
    by_cases e2 : j = p
    · subst e2; exact qup_at
    · rw [qup_j e2]; exact h.2 j e2
  · rw [qup_row e]; exact h.1 b hb e
theorem qCanR.day {I K : qI} {a p D : Nat} (h : qCanR I a p K) (ha : a = 116 ∨ a = 117 ∨ a = 118) (hd : mDay I D) : mDay K D := by
  obtain ⟨⟨n, hI, hh⟩, ⟨c, c6, hc⟩, ⟨l, l6, hl⟩, hL, d, dD, hd2⟩ := hd
  have e : ∀ b, b = 114 ∨ b = 122 ∨ (124 ≤ b ∧ b ≤ 129) → K b = I b := fun b hb => h.1 b (by omega) (by omega)
  exact ⟨⟨n, hI.only (fun b hb => e b (by omega)), by unfold mHo; rw [e 114 (by omega)]; exact hh⟩, ⟨c, c6, by rw [e 114 (by omega)]; exact hc⟩, ⟨l, l6, by rw [e 114 (by omega)]; exact hl⟩, fun k hk => by rw [e 122 (by omega)]; exact hL k hk, d, dD, by rw [e 114 (by omega)]; exact hd2⟩
section G10
variable {E : qE} {S : qSh} {I : qI} {J : qJ}
theorem c_Md_agreed (hM : isMd S) (h : mDay I 9999) : qMet E y_Md_agreed b_Md_agreed 7 (some .int) 5 0 0 [.ref (qb E + 114)] S I J (qAsk S I J) := by
  have hT := hM.1
  have f42 := hM.r 26 rfl
  have g42 := hM.a 26 rfl
  refine qMet.of (L := [some (.ref (qb E + 114)), none, none, none, none, none, none]) (by decide +kernel) (Nat.le_of_ble_eq_true rfl) rfl ?_
  refine lda_n_7_0 (pc := 0) d_Md_agreed_0 ?_
  refine r_callV (pc := 1) (As := []) (k := 9) (N := 56) (T := T_Md) k_Md_302 im_Md_looks se_Md_looks rfl (by decide) rfl (by decide) d_Md_agreed_1 hT (c_Md_looks hM h) rfl (Nat.le_of_ble_eq_true rfl) (by omega) (by omega) (by omega) (fun v S' K J' hq => ?_)
  obtain ⟨rfl, rfl, hK, -, rfl⟩ := hq
  have hD : mDay K 9999 := hK.day h
  obtain ⟨-, ⟨c, c6, hc⟩, ⟨l, l6, hl⟩, hL, -⟩ := id hD
  refine r_iconst (pc := 4) (v := 0) d_Md_agreed_4 rfl ?_
  refine sti_n_7_1 (pc := 5) d_Md_agreed_5 rfl ?_
  rw [q0]
  have k1 : ∀ p, p ≤ c → ∀ (a2 a3 a4 a5 a6 : Option Value), qn2 a2 = true → qn2 a3 = true → qn2 a4 = true → qn2 a5 = true → qW E y_Md_agreed b_Md_agreed (some .int) 5 0 0 (qAsk S I J) 0 0 6 [some (.ref (qb E + 114)), some (.int (nI p)), a2, a3, a4, a5, a6] [] S K J := by
    refine qfor c ?_ ?_
    · intro a2 a3 a4 a5 a6 n2 n3 n4 n5
      refine ldi_n_7_1 (pc := 6) d_Md_agreed_6 ?_
      refine lda_n_7_0 (pc := 7) d_Md_agreed_7 ?_
      refine g_Md_117 (pc := 8) rfl d_Md_agreed_8 (by assumption) ?_
      rw [hc]
      refine r_icmp_ge (pc := 11) (tgt := 144) d_Md_agreed_11 (by decide) (fun cc => ?_) (fun cc => ?_)
      · refine r_bipush (pc := 144) (v := (-5)) d_Md_agreed_144 rfl ?_
        exact r_iret d_Md_agreed_146 rfl (by omega) (by omega) (⟨_, rfl, rfl, hK, rfl⟩)
      · exact absurd (nI_le (Nat.le_refl c) (by omega)) cc
    · intro p hp ih a2 a3 a4 a5 a6 n2 n3 n4 n5
      refine ldi_n_7_1 (pc := 6) d_Md_agreed_6 ?_
      refine lda_n_7_0 (pc := 7) d_Md_agreed_7 ?_
      refine g_Md_117 (pc := 8) rfl d_Md_agreed_8 (by assumption) ?_
      rw [hc]
      refine r_icmp_ge (pc := 11) (tgt := 144) d_Md_agreed_11 (by decide) (fun cc => ?_) (fun cc => ?_)
      · exact absurd cc (nI_ge hp (by omega))
      · refine ldi_n_7_1 (pc := 14) d_Md_agreed_14 ?_
        refine r_iconst (pc := 15) (v := 1) d_Md_agreed_15 rfl ?_
        refine r_iadd (pc := 16) d_Md_agreed_16 ?_
        refine sti_n_7_2 (pc := 17) d_Md_agreed_17 rfl ?_
        rw [q1]
        have k2 : ∀ q, q ≤ c → ∀ (a3 a4 a5 a6 : Option Value), qn2 a3 = true → qn2 a4 = true → qn2 a5 = true → qW E y_Md_agreed b_Md_agreed (some .int) 5 0 0 (qAsk S I J) 0 0 18 [some (.ref (qb E + 114)), some (.int (nI p)), some (.int (nI q)), a3, a4, a5, a6] [] S K J := by
          refine qfor c ?_ ?_
          · intro a3 a4 a5 a6 n3 n4 n5
            refine ldi_n_7_2 (pc := 18) d_Md_agreed_18 ?_
            refine lda_n_7_0 (pc := 19) d_Md_agreed_19 ?_
            refine g_Md_117 (pc := 20) rfl d_Md_agreed_20 (by assumption) ?_
            rw [hc]
            refine r_icmp_ge (pc := 23) (tgt := 138) d_Md_agreed_23 (by decide) (fun c2 => ?_) (fun c2 => ?_)
            · refine inc_7_1 (pc := 138) (w := 1) d_Md_agreed_138 rfl rfl ?_
              refine r_goto (pc := 141) (tgt := 6) d_Md_agreed_141 (by decide) ?_
              rw [q1]
              exact ih _ _ _ _ _ rfl n3 n4 n5
            · exact absurd (nI_le (Nat.le_refl c) (by omega)) c2
          · intro q hq ih2 a3 a4 a5 a6 n3 n4 n5
            have nxt : ∀ (a3 a4 a5 a6 : Option Value), qn2 a3 = true → qn2 a4 = true → qn2 a5 = true → qW E y_Md_agreed b_Md_agreed (some .int) 5 0 0 (qAsk S I J) 0 0 132 [some (.ref (qb E + 114)), some (.int (nI p)), some (.int (nI q)), a3, a4, a5, a6] [] S K J := by
              intro a3 a4 a5 a6 n3 n4 n5
              refine inc_7_2 (pc := 132) (w := 1) d_Md_agreed_132 rfl rfl ?_
              refine r_goto (pc := 135) (tgt := 18) d_Md_agreed_135 (by decide) ?_
              rw [q1]
              exact ih2 _ _ _ _ n3 n4 n5
            refine ldi_n_7_2 (pc := 18) d_Md_agreed_18 ?_
            refine lda_n_7_0 (pc := 19) d_Md_agreed_19 ?_
            refine g_Md_117 (pc := 20) rfl d_Md_agreed_20 (by assumption) ?_
            rw [hc]
            refine r_icmp_ge (pc := 23) (tgt := 138) d_Md_agreed_23 (by decide) (fun c2 => ?_) (fun c2 => ?_)
            · exact absurd c2 (nI_ge hq (by omega))
            · refine lda_n_7_0 (pc := 26) d_Md_agreed_26 ?_
              refine ldi_n_7_1 (pc := 27) d_Md_agreed_27 ?_
              refine r_callV (pc := 28) (As := [.int (nI p)]) (k := 9) (N := 56) (T := T_Md) k_Md_311 im_Md_turnOf se_Md_turnOf rfl (by decide) rfl (by decide) d_Md_agreed_28 hT (c_Md_turnOf hM (by omega) hl l6 hL) rfl (Nat.le_of_ble_eq_true rfl) (by omega) (by omega) (by omega) (fun v S' I' J' hq => ?_)
              obtain ⟨⟨r, rfl, hr⟩, rfl, rfl, rfl⟩ := hq
              refine sti_n_7_3 (pc := 31) d_Md_agreed_31 rfl ?_
              refine lda_n_7_0 (pc := 32) d_Md_agreed_32 ?_
              refine ldi_n_7_2 (pc := 33) d_Md_agreed_33 ?_
              refine r_callV (pc := 34) (As := [.int (nI q)]) (k := 9) (N := 56) (T := T_Md) k_Md_311 im_Md_turnOf se_Md_turnOf rfl (by decide) rfl (by decide) d_Md_agreed_34 hT (c_Md_turnOf hM (by omega) hl l6 hL) rfl (Nat.le_of_ble_eq_true rfl) (by omega) (by omega) (by omega) (fun v S' I' J' hq => ?_)
              obtain ⟨⟨r2, rfl, hr2⟩, rfl, rfl, rfl⟩ := hq
              refine sti_7_4 (pc := 37) d_Md_agreed_37 rfl ?_
              refine ldi_n_7_3 (pc := 39) d_Md_agreed_39 ?_
              refine r_bipush (pc := 40) (v := (-5)) d_Md_agreed_40 rfl ?_
              refine r_icmp_eq (pc := 42) (tgt := 132) d_Md_agreed_42 (by decide) (fun c3 => ?_) (fun c3 => ?_)
              · exact nxt _ _ _ _ rfl rfl n5
              · refine ldi_7_4 (pc := 45) d_Md_agreed_45 ?_
                refine r_bipush (pc := 47) (v := (-5)) d_Md_agreed_47 rfl ?_
                refine r_icmp_ne (pc := 49) (tgt := 55) d_Md_agreed_49 (by decide) (fun c4 => ?_) (fun c4 => ?_)
                · obtain ⟨i, hi, rfl⟩ := hr.resolve_left c3
                  obtain ⟨j, hj, rfl⟩ := hr2.resolve_left c4
                  have x1 : vp_in (6 * nI p + nI j) 36 := by rw [show (6 : Int32) = nI 6 from rfl, pk_mul, nI_add]; exact vp_in_nI (by omega) (by omega)
                  have x2 : vp_in (6 * nI p + nI i) 36 := by rw [show (6 : Int32) = nI 6 from rfl, pk_mul, nI_add]; exact vp_in_nI (by omega) (by omega)
                  have x3 : vp_in (6 * nI q + nI i) 36 := by rw [show (6 : Int32) = nI 6 from rfl, pk_mul, nI_add]; exact vp_in_nI (by omega) (by omega)
                  have x4 : vp_in (6 * nI q + nI j) 36 := by rw [show (6 : Int32) = nI 6 from rfl, pk_mul, nI_add]; exact vp_in_nI (by omega) (by omega)
                  refine lda_n_7_0 (pc := 55) d_Md_agreed_55 ?_
                  refine g_Md_91 (pc := 56) rfl d_Md_agreed_56 (by assumption) (by assumption) ?_
                  refine r_bipush (pc := 59) (v := 6) d_Md_agreed_59 rfl ?_
                  refine ldi_n_7_1 (pc := 61) d_Md_agreed_61 ?_
                  refine r_imul (pc := 62) d_Md_agreed_62 ?_
                  refine ldi_7_4 (pc := 63) d_Md_agreed_63 ?_
                  refine r_iadd (pc := 65) d_Md_agreed_65 ?_
                  refine r_iald (pc := 66) d_Md_agreed_66 (by assumption) (by first | assumption | exact vp_in_nI (by omega) (by omega) | (unfold vp_in; decide)) ?_
                  refine lda_n_7_0 (pc := 67) d_Md_agreed_67 ?_
                  refine g_Md_91 (pc := 68) rfl d_Md_agreed_68 (by assumption) (by assumption) ?_
                  refine r_bipush (pc := 71) (v := 6) d_Md_agreed_71 rfl ?_
                  refine ldi_n_7_1 (pc := 73) d_Md_agreed_73 ?_
                  refine r_imul (pc := 74) d_Md_agreed_74 ?_
                  refine ldi_n_7_3 (pc := 75) d_Md_agreed_75 ?_
                  refine r_iadd (pc := 76) d_Md_agreed_76 ?_
                  refine r_iald (pc := 77) d_Md_agreed_77 (by assumption) (by first | assumption | exact vp_in_nI (by omega) (by omega) | (unfold vp_in; decide)) ?_
                  refine r_isub (pc := 78) d_Md_agreed_78 ?_
                  refine sti_7_5 (pc := 79) d_Md_agreed_79 rfl ?_
                  refine lda_n_7_0 (pc := 81) d_Md_agreed_81 ?_
                  refine g_Md_91 (pc := 82) rfl d_Md_agreed_82 (by assumption) (by assumption) ?_
                  refine r_bipush (pc := 85) (v := 6) d_Md_agreed_85 rfl ?_
                  refine ldi_n_7_2 (pc := 87) d_Md_agreed_87 ?_
                  refine r_imul (pc := 88) d_Md_agreed_88 ?_
                  refine ldi_n_7_3 (pc := 89) d_Md_agreed_89 ?_
                  refine r_iadd (pc := 90) d_Md_agreed_90 ?_
                  refine r_iald (pc := 91) d_Md_agreed_91 (by assumption) (by first | assumption | exact vp_in_nI (by omega) (by omega) | (unfold vp_in; decide)) ?_
                  refine lda_n_7_0 (pc := 92) d_Md_agreed_92 ?_
                  refine g_Md_91 (pc := 93) rfl d_Md_agreed_93 (by assumption) (by assumption) ?_
                  refine r_bipush (pc := 96) (v := 6) d_Md_agreed_96 rfl ?_
                  refine ldi_n_7_2 (pc := 98) d_Md_agreed_98 ?_
                  refine r_imul (pc := 99) d_Md_agreed_99 ?_
                  refine ldi_7_4 (pc := 100) d_Md_agreed_100 ?_
                  refine r_iadd (pc := 102) d_Md_agreed_102 ?_
                  refine r_iald (pc := 103) d_Md_agreed_103 (by assumption) (by first | assumption | exact vp_in_nI (by omega) (by omega) | (unfold vp_in; decide)) ?_
                  refine r_isub (pc := 104) d_Md_agreed_104 ?_
                  refine sti_7_6 (pc := 105) d_Md_agreed_105 rfl ?_
                  refine ldi_7_5 (pc := 107) d_Md_agreed_107 ?_
                  refine r_if_gt (pc := 109) (tgt := 132) d_Md_agreed_109 (by decide) (fun c5 => ?_) (fun c5 => ?_)
                  · exact nxt _ _ _ _ rfl rfl rfl
                  · refine ldi_7_6 (pc := 112) d_Md_agreed_112 ?_
                    refine r_if_gt (pc := 114) (tgt := 132) d_Md_agreed_114 (by decide) (fun c6 => ?_) (fun c6 => ?_)
                    · exact nxt _ _ _ _ rfl rfl rfl
                    · refine ldi_7_5 (pc := 117) d_Md_agreed_117 ?_
                      refine ldi_7_6 (pc := 119) d_Md_agreed_119 ?_
                      refine r_iadd (pc := 121) d_Md_agreed_121 ?_
                      refine r_if_ge (pc := 122) (tgt := 132) d_Md_agreed_122 (by decide) (fun c7 => ?_) (fun c7 => ?_)
                      · exact nxt _ _ _ _ rfl rfl rfl
                      · refine r_bipush (pc := 125) (v := 10) d_Md_agreed_125 rfl ?_
                        refine ldi_n_7_1 (pc := 127) d_Md_agreed_127 ?_
                        refine r_imul (pc := 128) d_Md_agreed_128 ?_
                        refine ldi_n_7_2 (pc := 129) d_Md_agreed_129 ?_
                        refine r_iadd (pc := 130) d_Md_agreed_130 ?_
                        exact r_iret d_Md_agreed_131 rfl (by omega) (by omega) (⟨_, rfl, rfl, hK, rfl⟩)
                · refine r_goto (pc := 52) (tgt := 132) d_Md_agreed_52 (by decide) ?_
                  exact nxt _ _ _ _ rfl rfl n5
        exact k2 (p + 1) (by omega) _ _ _ _ n3 n4 n5
  exact k1 0 (by omega) none none none none none rfl rfl rfl rfl
theorem c_Md_dear {x : Int32} (hM : isMd S) (h : mDay I 9999) : qMet E y_Md_dear b_Md_dear 7 (some .int) 5 0 0 [.ref (qb E + 114), .int x] S I J (qAsk S I J) := by
  have hT := hM.1
  have f42 := hM.r 26 rfl
  have g42 := hM.a 26 rfl
  have f44 := hM.r 27 rfl
  have g44 := hM.a 27 rfl
  refine qMet.of (L := [some (.ref (qb E + 114)), some (.int x), none, none, none, none, none]) (by decide +kernel) (Nat.le_of_ble_eq_true rfl) rfl ?_
  refine lda_n_7_0 (pc := 0) d_Md_dear_0 ?_
  refine r_callV (pc := 1) (As := []) (k := 9) (N := 56) (T := T_Md) k_Md_302 im_Md_looks se_Md_looks rfl (by decide) rfl (by decide) d_Md_dear_1 hT (c_Md_looks hM h) rfl (Nat.le_of_ble_eq_true rfl) (by omega) (by omega) (by omega) (fun v S' K J' hq => ?_)
  obtain ⟨rfl, rfl, hK, ⟨z, hz⟩, rfl⟩ := hq
  have hz6 := hz.2.1
  refine r_bipush (pc := 4) (v := (-5)) d_Md_dear_4 rfl ?_
  refine sti_n_7_2 (pc := 6) d_Md_dear_6 rfl ?_
  refine r_bipush (pc := 7) (v := (-5)) d_Md_dear_7 rfl ?_
  refine sti_n_7_3 (pc := 9) d_Md_dear_9 rfl ?_
  refine r_iconst (pc := 10) (v := 0) d_Md_dear_10 rfl ?_
  refine sti_7_4 (pc := 11) d_Md_dear_11 rfl ?_
  rw [q0]
  have key : ∀ k, k ≤ z → ∀ (f m : Int32) (a5 a6 : Option Value), qn2 a5 = true → qW E y_Md_dear b_Md_dear (some .int) 5 0 0 (qAsk S I J) 0 0 13 [some (.ref (qb E + 114)), some (.int x), some (.int f), some (.int m), some (.int (nI k)), a5, a6] [] S K J := by
    refine qfor z ?_ ?_
    · intro f m a5 a6 n5
      refine ldi_7_4 (pc := 13) d_Md_dear_13 ?_
      refine lda_n_7_0 (pc := 15) d_Md_dear_15 ?_
      refine g_Md_272 (pc := 16) rfl d_Md_dear_16 (by assumption) ?_
      rw [hz.1]
      refine r_icmp_ge (pc := 19) (tgt := 88) d_Md_dear_19 (by decide) (fun cc => ?_) (fun cc => ?_)
      · refine ldi_n_7_1 (pc := 88) d_Md_dear_88 ?_
        refine r_if_ne (pc := 89) (tgt := 96) d_Md_dear_89 (by decide) (fun c2 => ?_) (fun c2 => ?_)
        · refine ldi_n_7_3 (pc := 96) d_Md_dear_96 ?_
          exact r_iret d_Md_dear_97 rfl (by omega) (by omega) (⟨_, rfl, rfl, hK, rfl⟩)
        · refine ldi_n_7_2 (pc := 92) d_Md_dear_92 ?_
          refine r_goto (pc := 93) (tgt := 97) d_Md_dear_93 (by decide) ?_
          exact r_iret d_Md_dear_97 rfl (by omega) (by omega) (⟨_, rfl, rfl, hK, rfl⟩)
      · exact absurd (nI_le (Nat.le_refl z) (by omega)) cc
    · intro k hk ih f m a5 a6 n5
      obtain ⟨p, hp, ep⟩ := hz.2.2 k hk
      have ek : (nI k).toNatClampNeg = k := qcl (by omega)
      have nxt : ∀ (f m : Int32) (a5 a6 : Option Value), qn2 a5 = true → qW E y_Md_dear b_Md_dear (some .int) 5 0 0 (qAsk S I J) 0 0 82 [some (.ref (qb E + 114)), some (.int x), some (.int f), some (.int m), some (.int (nI k)), a5, a6] [] S K J := by
        intro f m a5 a6 n5
        refine inc_7_4 (pc := 82) (w := 1) d_Md_dear_82 rfl rfl ?_
        refine r_goto (pc := 85) (tgt := 13) d_Md_dear_85 (by decide) ?_
        rw [q1]
        exact ih _ _ _ _ n5
      have x1 : vp_in (6 * nI p + nI z - 1) 36 := by
        obtain ⟨y, rfl⟩ : ∃ y, z = y + 1 := ⟨z - 1, by omega⟩
        rw [show (6 : Int32) = nI 6 from rfl, pk_mul, nI_add, show 6 * p + (y + 1) = 6 * p + y + 1 by omega, nI_pred]
        exact vp_in_nI (by omega) (by omega)
      have x2 : vp_in (6 * nI p) 36 := by rw [show (6 : Int32) = nI 6 from rfl, pk_mul]; exact vp_in_nI (by omega) (by omega)
      refine ldi_7_4 (pc := 13) d_Md_dear_13 ?_
      refine lda_n_7_0 (pc := 15) d_Md_dear_15 ?_
      refine g_Md_272 (pc := 16) rfl d_Md_dear_16 (by assumption) ?_
      rw [hz.1]
      refine r_icmp_ge (pc := 19) (tgt := 88) d_Md_dear_19 (by decide) (fun cc => ?_) (fun cc => ?_)
      · exact absurd cc (nI_ge hk (by omega))
      · refine lda_n_7_0 (pc := 22) d_Md_dear_22 ?_
        refine g_Md_94 (pc := 23) rfl d_Md_dear_23 (by assumption) (by assumption) ?_
        refine ldi_7_4 (pc := 26) d_Md_dear_26 ?_
        refine r_iald (pc := 28) d_Md_dear_28 (by assumption) (by first | assumption | exact vp_in_nI (by omega) (by omega) | (unfold vp_in; decide)) ?_
        rw [ek, ep]
        refine sti_7_5 (pc := 29) d_Md_dear_29 rfl ?_
        refine lda_n_7_0 (pc := 31) d_Md_dear_31 ?_
        refine g_Md_91 (pc := 32) rfl d_Md_dear_32 (by assumption) (by assumption) ?_
        refine r_bipush (pc := 35) (v := 6) d_Md_dear_35 rfl ?_
        refine ldi_7_5 (pc := 37) d_Md_dear_37 ?_
        refine r_imul (pc := 39) d_Md_dear_39 ?_
        refine lda_n_7_0 (pc := 40) d_Md_dear_40 ?_
        refine g_Md_272 (pc := 41) rfl d_Md_dear_41 (by assumption) ?_
        rw [hz.1]
        refine r_iadd (pc := 44) d_Md_dear_44 ?_
        refine r_iconst (pc := 45) (v := 1) d_Md_dear_45 rfl ?_
        refine r_isub (pc := 46) d_Md_dear_46 ?_
        refine r_iald (pc := 47) d_Md_dear_47 (by assumption) (by first | assumption | exact vp_in_nI (by omega) (by omega) | (unfold vp_in; decide)) ?_
        refine lda_n_7_0 (pc := 48) d_Md_dear_48 ?_
        refine g_Md_91 (pc := 49) rfl d_Md_dear_49 (by assumption) (by assumption) ?_
        refine r_bipush (pc := 52) (v := 6) d_Md_dear_52 rfl ?_
        refine ldi_7_5 (pc := 54) d_Md_dear_54 ?_
        refine r_imul (pc := 56) d_Md_dear_56 ?_
        refine r_iald (pc := 57) d_Md_dear_57 (by assumption) (by first | assumption | exact vp_in_nI (by omega) (by omega) | (unfold vp_in; decide)) ?_
        refine r_isub (pc := 58) d_Md_dear_58 ?_
        refine sti_7_6 (pc := 59) d_Md_dear_59 rfl ?_
        refine ldi_n_7_2 (pc := 61) d_Md_dear_61 ?_
        refine r_bipush (pc := 62) (v := (-5)) d_Md_dear_62 rfl ?_
        refine r_icmp_eq (pc := 64) (tgt := 76) d_Md_dear_64 (by decide) (fun c2 => ?_) (fun c2 => ?_)
        · refine ldi_7_6 (pc := 76) d_Md_dear_76 ?_
          refine sti_n_7_3 (pc := 78) d_Md_dear_78 rfl ?_
          refine ldi_7_5 (pc := 79) d_Md_dear_79 ?_
          refine sti_n_7_2 (pc := 81) d_Md_dear_81 rfl ?_
          exact nxt _ _ _ _ rfl
        · refine ldi_7_6 (pc := 67) d_Md_dear_67 ?_
          refine ldi_n_7_3 (pc := 69) d_Md_dear_69 ?_
          refine r_icmp_gt (pc := 70) (tgt := 76) d_Md_dear_70 (by decide) (fun c3 => ?_) (fun c3 => ?_)
          · refine ldi_7_6 (pc := 76) d_Md_dear_76 ?_
            refine sti_n_7_3 (pc := 78) d_Md_dear_78 rfl ?_
            refine ldi_7_5 (pc := 79) d_Md_dear_79 ?_
            refine sti_n_7_2 (pc := 81) d_Md_dear_81 rfl ?_
            exact nxt _ _ _ _ rfl
          · refine r_goto (pc := 73) (tgt := 82) d_Md_dear_73 (by decide) ?_
            exact nxt _ _ _ _ rfl
  exact key 0 (by omega) _ _ none none rfl
theorem c_Md_isSeen {p z : Nat} (hM : isMd S) (h : mDay I 9999) (hp : p < 6) (hz : I 114 27 = nI z) (hz5 : z ≤ 5) (hN : ∀ i, i < 5 → ∃ t, t ≤ 20 ∧ I 133 i = nI t) : qMet E y_Md_isSeen b_Md_isSeen 3 (some .boolean) 4 0 0 [.ref (qb E + 114), .int (nI p)] S I J (fun v S' I' J' => (∃ r, v = some (.int r) ∧ qbool r) ∧ S = S' ∧ q130 I I' ∧ J = J') := by
  have hT := hM.1
  have f4 := hM.r 3 rfl
  have g4 := hM.a 3 rfl
  have f28 := hM.r 16 rfl
  have g28 := hM.a 16 rfl
  have f29 := hM.r 17 rfl
  have g29 := hM.a 17 rfl
  have f30 := hM.r 18 rfl
  have g30 := hM.a 18 rfl
  have hinp : vp_in (nI p) 6 := vp_in_nI hp (by omega)
  obtain ⟨-, -, -, -, d0, hd9, hd0⟩ := id h
  refine qMet.of (L := [some (.ref (qb E + 114)), some (.int (nI p)), none]) (by decide +kernel) (Nat.le_of_ble_eq_true rfl) rfl ?_
  refine r_iconst (pc := 0) (v := 0) d_Md_isSeen_0 rfl ?_
  refine sti_n_3_2 (pc := 1) d_Md_isSeen_1 rfl ?_
  rw [q0]
  have key : ∀ k, k ≤ z → ∀ K, q130 I K → qW E y_Md_isSeen b_Md_isSeen (some .boolean) 4 0 0 (fun v S' I' J' => (∃ r, v = some (.int r) ∧ qbool r) ∧ S = S' ∧ q130 I I' ∧ J = J') 0 0 2 [some (.ref (qb E + 114)), some (.int (nI p)), some (.int (nI k))] [] S K J := by
    refine qfor z ?_ ?_
    · intro K hK
      refine ldi_n_3_2 (pc := 2) d_Md_isSeen_2 ?_
      refine lda_n_3_0 (pc := 3) d_Md_isSeen_3 ?_
      refine g_Md_314 (pc := 4) rfl d_Md_isSeen_4 (by assumption) ?_
      rw [hK 114 (by decide), hz]
      refine r_icmp_ge (pc := 7) (tgt := 71) d_Md_isSeen_7 (by decide) (fun cc => ?_) (fun cc => ?_)
      · refine r_iconst (pc := 71) (v := 1) d_Md_isSeen_71 rfl ?_
        exact r_nret d_Md_isSeen_72 rfl (qbool_n (by first | exact Or.inl rfl | exact Or.inr rfl | assumption | exact qwithin_b | exact qbit_b)) (by omega) (by omega) (⟨⟨1, rfl, Or.inr rfl⟩, rfl, hK, rfl⟩)
      · exact absurd (nI_le (Nat.le_refl z) (by omega)) cc
    · intro k hk ih K hK
      obtain ⟨t, ht, et⟩ := hN k (by omega)
      have ek : (nI k).toNatClampNeg = k := qcl (by omega)
      have hD : mDay K 9999 := h.eq hK
      obtain ⟨⟨n, i1, i2⟩, -⟩ := id hD
      refine ldi_n_3_2 (pc := 2) d_Md_isSeen_2 ?_
      refine lda_n_3_0 (pc := 3) d_Md_isSeen_3 ?_
      refine g_Md_314 (pc := 4) rfl d_Md_isSeen_4 (by assumption) ?_
      rw [hK 114 (by decide), hz]
      refine r_icmp_ge (pc := 7) (tgt := 71) d_Md_isSeen_7 (by decide) (fun cc => ?_) (fun cc => ?_)
      · exact absurd cc (nI_ge hk (by omega))
      · refine lda_n_3_0 (pc := 10) d_Md_isSeen_10 ?_
        refine g_Md_61 (pc := 11) rfl d_Md_isSeen_11 (by assumption) (by assumption) ?_
        refine ldi_n_3_2 (pc := 14) d_Md_isSeen_14 ?_
        refine r_iald (pc := 15) d_Md_isSeen_15 (by assumption) (by first | assumption | exact vp_in_nI (by omega) (by omega) | (unfold vp_in; decide)) ?_
        refine ldi_n_3_1 (pc := 16) d_Md_isSeen_16 ?_
        refine r_icmp_ne (pc := 17) (tgt := 65) d_Md_isSeen_17 (by decide) (fun c2 => ?_) (fun c2 => ?_)
        · refine inc_3_2 (pc := 65) (w := 1) d_Md_isSeen_65 rfl rfl ?_
          refine r_goto (pc := 68) (tgt := 2) d_Md_isSeen_68 (by decide) ?_
          rw [q1]
          exact ih K hK
        · refine lda_n_3_0 (pc := 20) d_Md_isSeen_20 ?_
          refine ldi_n_3_1 (pc := 21) d_Md_isSeen_21 ?_
          refine lda_n_3_0 (pc := 22) d_Md_isSeen_22 ?_
          refine g_Md_135 (pc := 23) rfl d_Md_isSeen_23 (by assumption) ?_
          refine lda_n_3_0 (pc := 26) d_Md_isSeen_26 ?_
          refine g_Md_67 (pc := 27) rfl d_Md_isSeen_27 (by assumption) (by assumption) ?_
          refine ldi_n_3_2 (pc := 30) d_Md_isSeen_30 ?_
          refine r_iald (pc := 31) d_Md_isSeen_31 (by assumption) (by first | assumption | exact vp_in_nI (by omega) (by omega) | (unfold vp_in; decide)) ?_
          refine r_iadd (pc := 32) d_Md_isSeen_32 ?_
          refine r_bipush (pc := 33) (v := 99) d_Md_isSeen_33 rfl ?_
          refine lda_n_3_0 (pc := 35) d_Md_isSeen_35 ?_
          refine g_Md_21 (pc := 36) rfl d_Md_isSeen_36 (by assumption) (by assumption) ?_
          refine ldi_n_3_1 (pc := 39) d_Md_isSeen_39 ?_
          refine r_iald (pc := 40) d_Md_isSeen_40 (by assumption) (by first | assumption | exact vp_in_nI (by omega) (by omega) | (unfold vp_in; decide)) ?_
          refine lda_n_3_0 (pc := 41) d_Md_isSeen_41 ?_
          refine g_Md_67 (pc := 42) rfl d_Md_isSeen_42 (by assumption) (by assumption) ?_
          refine ldi_n_3_2 (pc := 45) d_Md_isSeen_45 ?_
          refine r_iald (pc := 46) d_Md_isSeen_46 (by assumption) (by first | assumption | exact vp_in_nI (by omega) (by omega) | (unfold vp_in; decide)) ?_
          refine r_iadd (pc := 47) d_Md_isSeen_47 ?_
          rw [ek, hK 114 (by decide), hK 133 (by decide), hd0, et, nI_add]
          refine r_callS (pc := 48) (As := [_, _]) k_Md_247 sw_jM_min rfl (by decide) d_Md_isSeen_48 (c_min _ _) rfl (Nat.le_of_ble_eq_true rfl) (by omega) (by omega) (by omega) (fun v S' I' J' hq => ?_)
          obtain ⟨rfl, rfl, rfl, rfl⟩ := hq
          refine r_callV (pc := 51) (As := [_, _, _]) (k := 9) (N := 56) (T := T_Md) k_Md_138 im_Md_pain se_Md_pain rfl (by decide) rfl (by decide) d_Md_isSeen_51 hT (c_Md_pain (dd := d0 + t) hM i1 i2 hp rfl (by omega)) rfl (Nat.le_of_ble_eq_true rfl) (by omega) (by omega) (by omega) (fun v S' K2 J' hq => ?_)
          obtain ⟨rfl, rfl, hg, rfl⟩ := hq
          have h2 : q130 I K2 := qOnly.tr hK hg
          refine lda_n_3_0 (pc := 54) d_Md_isSeen_54 ?_
          refine g_Md_64 (pc := 55) rfl d_Md_isSeen_55 (by assumption) (by assumption) ?_
          refine ldi_n_3_2 (pc := 58) d_Md_isSeen_58 ?_
          refine r_iald (pc := 59) d_Md_isSeen_59 (by assumption) (by first | assumption | exact vp_in_nI (by omega) (by omega) | (unfold vp_in; decide)) ?_
          refine r_icmp_eq (pc := 60) (tgt := 65) d_Md_isSeen_60 (by decide) (fun c3 => ?_) (fun c3 => ?_)
          · refine inc_3_2 (pc := 65) (w := 1) d_Md_isSeen_65 rfl rfl ?_
            refine r_goto (pc := 68) (tgt := 2) d_Md_isSeen_68 (by decide) ?_
            rw [q1]
            exact ih K2 h2
          · refine r_iconst (pc := 63) (v := 0) d_Md_isSeen_63 rfl ?_
            exact r_nret d_Md_isSeen_64 rfl (qbool_n (by first | exact Or.inl rfl | exact Or.inr rfl | assumption | exact qwithin_b | exact qbit_b)) (by omega) (by omega) (⟨⟨0, rfl, Or.inl rfl⟩, rfl, h2, rfl⟩)
  exact key 0 (by omega) I qOnly.rf
theorem c_Md_getOf {p : Nat} {x : Int32} (hM : isMd S) (hp : p < 6) : qMet E y_Md_getOf b_Md_getOf 3 (some .int) 0 0 0 [.ref (qb E + 114), .int (nI p), .int x] S I J (qPi S I J (I (mca x) p)) := by
  have hT := hM.1
  have f2 := hM.r 1 rfl
  have g2 := hM.a 1 rfl
  have f3 := hM.r 2 rfl
  have g3 := hM.a 2 rfl
  have f4 := hM.r 3 rfl
  have g4 := hM.a 3 rfl
  have ep : (nI p).toNatClampNeg = p := qcl (by omega)
  unfold mca
  refine qMet.of (L := [some (.ref (qb E + 114)), some (.int (nI p)), some (.int x)]) (by decide +kernel) (Nat.le_of_ble_eq_true rfl) rfl ?_
  refine ldi_n_3_2 (pc := 0) d_Md_getOf_0 ?_
  refine r_if_ne (pc := 1) (tgt := 13) d_Md_getOf_1 (by decide) (fun c1 => ?_) (fun c1 => ?_)
  · rw [if_neg c1]
    refine ldi_n_3_2 (pc := 13) d_Md_getOf_13 ?_
    refine r_iconst (pc := 14) (v := 1) d_Md_getOf_14 rfl ?_
    refine r_icmp_ne (pc := 15) (tgt := 27) d_Md_getOf_15 (by decide) (fun c2 => ?_) (fun c2 => ?_)
    · rw [if_neg c2]
      refine lda_n_3_0 (pc := 27) d_Md_getOf_27 ?_
      refine g_Md_15 (pc := 28) rfl d_Md_getOf_28 (by assumption) (by assumption) ?_
      refine ldi_n_3_1 (pc := 31) d_Md_getOf_31 ?_
      refine r_iald (pc := 32) d_Md_getOf_32 (by assumption) (by first | assumption | exact vp_in_nI (by omega) (by omega) | (unfold vp_in; decide)) ?_
      rw [ep]
      exact r_iret d_Md_getOf_33 rfl (by omega) (by omega) (⟨rfl, rfl, rfl, rfl⟩)
    · rw [if_pos c2]
      refine lda_n_3_0 (pc := 18) d_Md_getOf_18 ?_
      refine g_Md_21 (pc := 19) rfl d_Md_getOf_19 (by assumption) (by assumption) ?_
      refine ldi_n_3_1 (pc := 22) d_Md_getOf_22 ?_
      refine r_iald (pc := 23) d_Md_getOf_23 (by assumption) (by first | assumption | exact vp_in_nI (by omega) (by omega) | (unfold vp_in; decide)) ?_
      refine r_goto (pc := 24) (tgt := 33) d_Md_getOf_24 (by decide) ?_
      rw [ep]
      exact r_iret d_Md_getOf_33 rfl (by omega) (by omega) (⟨rfl, rfl, rfl, rfl⟩)
  · rw [if_pos c1]
    refine lda_n_3_0 (pc := 4) d_Md_getOf_4 ?_
    refine g_Md_18 (pc := 5) rfl d_Md_getOf_5 (by assumption) (by assumption) ?_
    refine ldi_n_3_1 (pc := 8) d_Md_getOf_8 ?_
    refine r_iald (pc := 9) d_Md_getOf_9 (by assumption) (by first | assumption | exact vp_in_nI (by omega) (by omega) | (unfold vp_in; decide)) ?_
    refine r_goto (pc := 10) (tgt := 33) d_Md_getOf_10 (by decide) ?_
    rw [ep]
    exact r_iret d_Md_getOf_33 rfl (by omega) (by omega) (⟨rfl, rfl, rfl, rfl⟩)
theorem c_Md_setOf {p : Nat} {x n : Int32} (hM : isMd S) (hp : p < 6) : qMet E y_Md_setOf b_Md_setOf 4 none 0 0 0 [.ref (qb E + 114), .int (nI p), .int x, .int n] S I J (fun v S' I' J' => v = none ∧ S = S' ∧ I' = qup I (mca x) p n ∧ J = J') := by
  have hT := hM.1
  have f2 := hM.r 1 rfl
  have g2 := hM.a 1 rfl
  have f3 := hM.r 2 rfl
  have g3 := hM.a 2 rfl
  have f4 := hM.r 3 rfl
  have g4 := hM.a 3 rfl
  have ep : (nI p).toNatClampNeg = p := qcl (by omega)
  unfold mca
  refine qMet.of (L := [some (.ref (qb E + 114)), some (.int (nI p)), some (.int x), some (.int n)]) (by decide +kernel) (Nat.le_of_ble_eq_true rfl) rfl ?_
  refine ldi_n_4_2 (pc := 0) d_Md_setOf_0 ?_
  refine r_if_ne (pc := 1) (tgt := 14) d_Md_setOf_1 (by decide) (fun c1 => ?_) (fun c1 => ?_)
  · simp only [if_neg c1]
    refine ldi_n_4_2 (pc := 14) d_Md_setOf_14 ?_
    refine r_iconst (pc := 15) (v := 1) d_Md_setOf_15 rfl ?_
    refine r_icmp_ne (pc := 16) (tgt := 29) d_Md_setOf_16 (by decide) (fun c2 => ?_) (fun c2 => ?_)
    · simp only [if_neg c2]
      refine lda_n_4_0 (pc := 29) d_Md_setOf_29 ?_
      refine g_Md_15 (pc := 30) rfl d_Md_setOf_30 (by assumption) (by assumption) ?_
      refine ldi_n_4_1 (pc := 33) d_Md_setOf_33 ?_
      refine ldi_n_4_3 (pc := 34) d_Md_setOf_34 ?_
      refine r_iast (pc := 35) d_Md_setOf_35 (by assumption) (by first | assumption | exact vp_in_nI (by omega) (by omega) | (unfold vp_in; decide)) ?_
      rw [ep]
      exact r_vret d_Md_setOf_36 rfl (by omega) (by omega) (⟨rfl, rfl, rfl, rfl⟩)
    · simp only [if_pos c2]
      refine lda_n_4_0 (pc := 19) d_Md_setOf_19 ?_
      refine g_Md_21 (pc := 20) rfl d_Md_setOf_20 (by assumption) (by assumption) ?_
      refine ldi_n_4_1 (pc := 23) d_Md_setOf_23 ?_
      refine ldi_n_4_3 (pc := 24) d_Md_setOf_24 ?_
      refine r_iast (pc := 25) d_Md_setOf_25 (by assumption) (by first | assumption | exact vp_in_nI (by omega) (by omega) | (unfold vp_in; decide)) ?_
      refine r_goto (pc := 26) (tgt := 36) d_Md_setOf_26 (by decide) ?_
      rw [ep]
      exact r_vret d_Md_setOf_36 rfl (by omega) (by omega) (⟨rfl, rfl, rfl, rfl⟩)
  · simp only [if_pos c1]
    refine lda_n_4_0 (pc := 4) d_Md_setOf_4 ?_
    refine g_Md_18 (pc := 5) rfl d_Md_setOf_5 (by assumption) (by assumption) ?_
    refine ldi_n_4_1 (pc := 8) d_Md_setOf_8 ?_
    refine ldi_n_4_3 (pc := 9) d_Md_setOf_9 ?_
    refine r_iast (pc := 10) d_Md_setOf_10 (by assumption) (by first | assumption | exact vp_in_nI (by omega) (by omega) | (unfold vp_in; decide)) ?_
    refine r_goto (pc := 11) (tgt := 36) d_Md_setOf_11 (by decide) ?_
    rw [ep]
    exact r_vret d_Md_setOf_36 rfl (by omega) (by omega) (⟨rfl, rfl, rfl, rfl⟩)
end G10
