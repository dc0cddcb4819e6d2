/-! the reference's reader: an island -/
def pisl (f : Nat → Int32) (n h cz : Nat) : Nat → Nat → qI → pSt → Bool × Nat × pSt × qI
  | 0, m, B, s => (false, m, s, B)
  | k + 1, m, B, s =>
    if (pcl f n B cz (10 * h + m) s).1 = true then
      if (pcl f n B cz (10 * h + m) s).2.1.1 = n then (true, m + 1, (pcl f n B cz (10 * h + m) s).2.1, (pcl f n B cz (10 * h + m) s).2.2)
      else if k = 0 then (false, m + 1, (pcl f n B cz (10 * h + m) s).2.1, (pcl f n B cz (10 * h + m) s).2.2)
      else if (pis f n 59 (pcl f n B cz (10 * h + m) s).2.1).1 = true then pisl f n h cz k (m + 1) (pcl f n B cz (10 * h + m) s).2.2 (pis f n 59 (pcl f n B cz (10 * h + m) s).2.1).2
      else (false, m + 1, (pis f n 59 (pcl f n B cz (10 * h + m) s).2.1).2, (pcl f n B cz (10 * h + m) s).2.2)
    else (false, m, (pcl f n B cz (10 * h + m) s).2.1, (pcl f n B cz (10 * h + m) s).2.2)
section PISL
variable {f : Nat → Int32} {n cz c : Nat} {B : qI} {s : pSt}
theorem ptl_row {w v : Int32} {a : Nat} (h1 : a ≠ 125) (h2 : a ≠ 126) (h3 : a ≠ 127) (h4 : a ≠ 128) : (ptl f n B cz c w v s).2.2 a = B a := by
  have e : pB1 B cz c w v s a = B a := by unfold pB1; rw [qup_row h3, qup_row h2, qup_row h1]
  unfold ptl
  split
  · split
    · split
      · show qup _ 128 c _ a = _
        rw [qup_row h4, e]
      · exact e
    · exact e
  · show qup _ 128 c _ a = _
    rw [qup_row h4, e]
theorem pcl_row {a : Nat} (h1 : a ≠ 125) (h2 : a ≠ 126) (h3 : a ≠ 127) (h4 : a ≠ 128) : (pcl f n B cz c s).2.2 a = B a := by
  unfold pcl
  split
  · rfl
  · split
    · split
      · rfl
      · exact ptl_row h1 h2 h3 h4
    · rfl
theorem pis_good {x : Int32} : pgd s (pis f n x s) := by
  unfold pis pgd
  split
  · simp only; omega
  · exact ⟨Nat.le_refl _, Nat.le_refl _⟩
theorem ptl_good {w v : Int32} : pgd s ((ptl f n B cz c w v s).1, (ptl f n B cz c w v s).2.1) := by
  have g1 := pis_good (f := f) (n := n) (s := s) (x := 32)
  have g2 := pE_good (f := f) (n := n) (pF_good (f := f) (n := n) 4) (pis f n 32 s).2
  unfold ptl
  unfold pgd at *
  split
  · split
    · split
      · simp only; omega
      · simp only; omega
    · exact g1
  · simp
theorem pcl_good : pgd s ((pcl f n B cz c s).1, (pcl f n B cz c s).2.1) := by
  have g1 := pall_len (f := f) (n := n) (qByt.getD (pwi f s.1) []) s
  have g2 := pnum_len (f := f) (n := n) (a := (pall f n (qByt.getD (pwi f s.1) []) s).2.1)
  have g3 := ptl_good (f := f) (n := n) (B := B) (cz := cz) (c := c) (w := pw f n s.1) (v := (pnumL f n 2 0 0 (pall f n (qByt.getD (pwi f s.1) []) s).2.1).1) (s := ((pnumL f n 2 0 0 (pall f n (qByt.getD (pwi f s.1) []) s).2.1).2.2, (pall f n (qByt.getD (pwi f s.1) []) s).2.2))
  unfold pcl
  unfold pgd at *
  simp only [g1.1] at g3 ⊢
  split
  · simp
  · split
    · split
      · simp only; omega
      · omega
    · simp only [g1.1]; omega
end PISL
def pIQ (S : qSh) (J : qJ) (n h cz : Nat) (R : Bool × Nat × pSt × qI) : qPost := fun v S' I' J' => S = S' ∧ J = J' ∧ ∃ K op, pRd R.2.2.2 n cz op R.2.2.1 K ∧ ((R.1 = true ∧ v = some (.int (nI h)) ∧ I' = qup (qup (qup (qup K 114 11 0) 124 h (nI R.2.1)) 114 18 (nI h)) 114 17 (nI (h + 1))) ∨ (¬ R.1 = true ∧ v = some (.int (-10 - nI R.2.2.1.1)) ∧ I' = qup (qup K 114 11 0) 114 25 (nI cz)))
section G22
variable {E : qE} {S : qSh} {I : qI} {J : qJ} {f : Nat → Int32} {n cz : Nat}
theorem c_Md_island6 (hM : isMd S) (h6 : I 114 17 = 6) : qMet E y_Md_island b_Md_island 5 (some .int) 21 0 0 [.ref (qb E + 114)] S I J (qPi S I J (-4)) := by
  have hT := hM.1
  refine qMet.of (L := [some (.ref (qb E + 114)), none, none, none, none]) (by decide +kernel) (Nat.le_of_ble_eq_true rfl) rfl ?_
  refine lda_n_5_0 (pc := 0) d_Md_island_0 ?_
  refine g_Md_215 (pc := 1) rfl d_Md_island_1 (by assumption) ?_
  refine r_bipush (pc := 4) (v := 6) d_Md_island_4 rfl ?_
  rw [h6]
  refine r_icmp_ne (pc := 6) (tgt := 12) d_Md_island_6 (by decide) (fun c => ?_) (fun c => ?_)
  · exact absurd rfl c
  · refine r_bipush (pc := 9) (v := (-4)) d_Md_island_9 rfl ?_
    exact r_iret d_Md_island_11 rfl (by omega) (by omega) (⟨rfl, rfl, rfl, rfl⟩)
theorem c_Md_island {h op0 : Nat} (hM : isMd S) (hx : pTx I f n) (hcz : cz ≤ 600) (hh : h < 6) (h17 : I 114 17 = nI h) (h25 : I 114 25 = nI cz) (h16 : I 114 16 = nI op0) : qMet E y_Md_island b_Md_island 5 (some .int) 21 0 0 [.ref (qb E + 114)] S I J (pIQ S J n h cz (pisl f n h cz 10 0 I (0, []))) := by
  have hT := hM.1
  have f19 := hM.r 9 rfl
  have g19 := hM.a 9 rfl
  have hn := hx.2.1
  generalize hend : pisl f n h cz 10 0 I (0, []) = rr
  have fin : ∀ (K B : qI) (b : Bool) (m op : Nat) (s : pSt) (g : Int32), pRd B n cz op s K → (b, m, s, B) = rr → B 114 17 = nI h → qW E y_Md_island b_Md_island (some .int) 21 0 0 (pIQ S J n h cz rr) 0 0 123 [some (.ref (qb E + 114)), some (.int (nI cz)), some (.int (nI m)), some (.int g), some (.int (if b = true then 1 else 0))] [] S K J := by
    intro K B b m op s g hK e hB
    subst e
    have e17 : K 114 17 = nI h := by rw [hK.2.1 17 (by decide) (by decide) (by decide) (by decide) (by decide)]; exact hB
    have e13 := hK.2.2.1
    refine lda_n_5_0 (pc := 123) d_Md_island_123 ?_
    refine r_iconst (pc := 124) (v := 0) d_Md_island_124 rfl ?_
    refine p_Md_143 (pc := 125) rfl d_Md_island_125 (by assumption) ?_
    refine ldi_5_4 (pc := 128) d_Md_island_128 ?_
    refine r_if_ne (pc := 130) (tgt := 146) d_Md_island_130 (by decide) (fun c => ?_) (fun c => ?_)
    · refine lda_n_5_0 (pc := 146) d_Md_island_146 ?_
      refine g_Md_39 (pc := 147) rfl d_Md_island_147 (by assumption) (by assumption) ?_
      refine lda_n_5_0 (pc := 150) d_Md_island_150 ?_
      refine g_Md_215 (pc := 151) rfl d_Md_island_151 (by assumption) ?_
      refine ldi_n_5_2 (pc := 154) d_Md_island_154 ?_
      have z1 : qup K 114 11 0 114 17 = nI h := by rw [qup_j (by decide)]; exact e17
      rw [z1]
      refine r_iast (pc := 155) d_Md_island_155 (by assumption) (by first | assumption | exact vp_in_nI (by omega) (by omega) | (unfold vp_in; decide)) ?_
      rw [qcl (n := h) (by omega)]
      refine lda_n_5_0 (pc := 156) d_Md_island_156 ?_
      refine lda_n_5_0 (pc := 157) d_Md_island_157 ?_
      refine g_Md_215 (pc := 158) rfl d_Md_island_158 (by assumption) ?_
      refine p_Md_113 (pc := 161) rfl d_Md_island_161 (by assumption) ?_
      refine lda_n_5_0 (pc := 164) d_Md_island_164 ?_
      refine r_dup (pc := 165) d_Md_island_165 rfl ?_
      refine g_Md_215 (pc := 166) rfl d_Md_island_166 (by assumption) ?_
      refine r_dup_x1 (pc := 169) d_Md_island_169 rfl rfl ?_
      refine r_iconst (pc := 170) (v := 1) d_Md_island_170 rfl ?_
      refine r_iadd (pc := 171) d_Md_island_171 ?_
      refine p_Md_215 (pc := 172) rfl d_Md_island_172 (by assumption) ?_
      have z2 : qup (qup K 114 11 0) 124 h (nI m) 114 17 = nI h := by rw [qup_o (by decide)]; exact z1
      have z3 : qup (qup (qup K 114 11 0) 124 h (nI m)) 114 18 (nI h) 114 17 = nI h := by rw [qup_j (by decide)]; exact z2
      rw [z2, z3]
      exact r_iret d_Md_island_175 rfl (by omega) (by omega) (⟨rfl, rfl, K, op, hK, Or.inl ⟨pb1 c, rfl, by rw [q1]⟩⟩)
    · refine lda_n_5_0 (pc := 133) d_Md_island_133 ?_
      refine ldi_n_5_1 (pc := 134) d_Md_island_134 ?_
      refine p_Md_171 (pc := 135) rfl d_Md_island_135 (by assumption) ?_
      refine r_bipush (pc := 138) (v := (-10)) d_Md_island_138 rfl ?_
      refine lda_n_5_0 (pc := 140) d_Md_island_140 ?_
      refine g_Md_146 (pc := 141) rfl d_Md_island_141 (by assumption) ?_
      refine r_isub (pc := 144) d_Md_island_144 ?_
      have z1 : qup (qup K 114 11 0) 114 25 (nI cz) 114 13 = nI s.1 := by rw [qup_j (by decide), qup_j (by decide)]; exact e13
      rw [z1]
      exact r_iret d_Md_island_145 rfl (by omega) (by omega) (⟨rfl, rfl, K, op, hK, Or.inr ⟨pb0 c, rfl, rfl⟩⟩)
  have key : ∀ (k m op : Nat) (B K : qI) (s : pSt), m + k = 10 → 0 < k → pRd B n cz op s K → pTx B f n → B 114 17 = nI h → s.2.length ≤ s.1 → pisl f n h cz k m B s = rr → qW E y_Md_island b_Md_island (some .int) 21 0 0 (pIQ S J n h cz rr) 0 0 29 [some (.ref (qb E + 114)), some (.int (nI cz)), some (.int (nI m)), some (.int 1), some (.int 0)] [] S K J := by
    intro k
    induction k with
    | zero => intro m op B K s _ h0; omega
    | succ k ih =>
      intro m op B K s hmk _ hK hxB hB hl e
      have e17 : K 114 17 = nI h := by rw [hK.2.1 17 (by decide) (by decide) (by decide) (by decide) (by decide)]; exact hB
      rw [pisl] at e
      refine ldi_n_5_3 (pc := 29) d_Md_island_29 ?_
      refine r_if_eq (pc := 30) (tgt := 123) d_Md_island_30 (by decide) (fun c1 => ?_) (fun c1 => ?_)
      · exact absurd c1 (by decide)
      · refine ldi_5_4 (pc := 33) d_Md_island_33 ?_
        refine r_if_ne (pc := 35) (tgt := 123) d_Md_island_35 (by decide) (fun c2 => ?_) (fun c2 => ?_)
        · exact absurd rfl c2
        · refine ldi_n_5_2 (pc := 38) d_Md_island_38 ?_
          refine r_bipush (pc := 39) (v := 10) d_Md_island_39 rfl ?_
          refine r_icmp_ge (pc := 41) (tgt := 64) d_Md_island_41 (by decide) (fun c3 => ?_) (fun c3 => ?_)
          · exact absurd (show nI 10 ≤ nI m from c3) (nI_ge (by omega) (by omega))
          · refine lda_n_5_0 (pc := 44) d_Md_island_44 ?_
            refine r_bipush (pc := 45) (v := 10) d_Md_island_45 rfl ?_
            refine lda_n_5_0 (pc := 47) d_Md_island_47 ?_
            refine g_Md_215 (pc := 48) rfl d_Md_island_48 (by assumption) ?_
            refine r_imul (pc := 51) d_Md_island_51 ?_
            refine ldi_n_5_2 (pc := 52) d_Md_island_52 ?_
            refine r_iadd (pc := 53) d_Md_island_53 ?_
            rw [e17, show (10 : Int32) = nI 10 from rfl, pk_mul, nI_add]
            refine r_callV (pc := 54) (As := [.int (nI (10 * h + m))]) (k := 9) (N := 56) (T := T_Md) k_Md_218 im_Md_isClause se_Md_isClause rfl (by decide) rfl (by decide) d_Md_island_54 (by assumption) (c_Md_isClause hM hxB hcz (by omega) hK hl) rfl (Nat.le_of_ble_eq_true rfl) (by omega) (by omega) (by omega) (fun v S' I' J' hq => ?_)
            obtain ⟨rfl, rfl, ⟨op2, hr⟩, rfl⟩ := hq
            have gg := pcl_good (f := f) (n := n) (B := B) (cz := cz) (c := 10 * h + m) (s := s)
            have rw1 : ∀ a, a ≠ 125 → a ≠ 126 → a ≠ 127 → a ≠ 128 → (pcl f n B cz (10 * h + m) s).2.2 a = B a := fun a x1 x2 x3 x4 => pcl_row x1 x2 x3 x4
            generalize pcl f n B cz (10 * h + m) s = r at *
            obtain ⟨rb, rs, rB⟩ := r
            unfold pgd at gg
            simp only at gg rw1 hr e
            have hB2 : rB 114 17 = nI h := by rw [rw1 114 (by decide) (by decide) (by decide) (by decide)]; exact hB
            have hx2 : pTx rB f n := by unfold pTx; rw [rw1 114 (by decide) (by decide) (by decide) (by decide), rw1 123 (by decide) (by decide) (by decide) (by decide)]; exact hxB
            have rl := hr.2.2.2.1
            refine r_if_eq (pc := 57) (tgt := 64) d_Md_island_57 (by decide) (fun c4 => ?_) (fun c4 => ?_)
            · have hb := pb0 c4
              rw [if_neg hb] at e
              refine r_iconst (pc := 64) (v := 0) d_Md_island_64 rfl ?_
              refine sti_n_5_3 (pc := 65) d_Md_island_65 rfl ?_
              refine ldi_n_5_3 (pc := 66) d_Md_island_66 ?_
              refine r_if_ne (pc := 67) (tgt := 73) d_Md_island_67 (by decide) (fun c5 => ?_) (fun c5 => ?_)
              · exact absurd rfl c5
              · refine r_goto (pc := 70) (tgt := 29) d_Md_island_70 (by decide) ?_
                refine ldi_n_5_3 (pc := 29) d_Md_island_29 ?_
                refine r_if_eq (pc := 30) (tgt := 123) d_Md_island_30 (by decide) (fun c6 => ?_) (fun c6 => ?_)
                · exact fin _ _ false m op2 _ _ hr e hB2
                · exact absurd rfl c6
            · have hb := pb1 c4
              rw [if_pos hb] at e
              have e13 := hr.2.2.1
              have e11 : I' 114 11 = nI n := by rw [hr.2.1 11 (by decide) (by decide) (by decide) (by decide) (by decide)]; exact hx2.1
              refine r_iconst (pc := 60) (v := 1) d_Md_island_60 rfl ?_
              refine r_goto (pc := 61) (tgt := 65) d_Md_island_61 (by decide) ?_
              refine sti_n_5_3 (pc := 65) d_Md_island_65 rfl ?_
              refine ldi_n_5_3 (pc := 66) d_Md_island_66 ?_
              refine r_if_ne (pc := 67) (tgt := 73) d_Md_island_67 (by decide) (fun c5 => ?_) (fun c5 => ?_)
              · refine inc_5_2 (pc := 73) (w := 1) d_Md_island_73 rfl rfl ?_
                refine lda_n_5_0 (pc := 76) d_Md_island_76 ?_
                refine g_Md_146 (pc := 77) rfl d_Md_island_77 (by assumption) ?_
                refine lda_n_5_0 (pc := 80) d_Md_island_80 ?_
                refine g_Md_143 (pc := 81) rfl d_Md_island_81 (by assumption) ?_
                rw [q1, e13, e11]
                refine r_icmp_ne (pc := 84) (tgt := 91) d_Md_island_84 (by decide) (fun c6 => ?_) (fun c6 => ?_)
                · have hne : ¬ rs.1 = n := fun q => c6 (by rw [q])
                  rw [if_neg hne] at e
                  refine r_iconst (pc := 91) (v := 0) d_Md_island_91 rfl ?_
                  refine sti_5_4 (pc := 92) d_Md_island_92 rfl ?_
                  refine ldi_5_4 (pc := 94) d_Md_island_94 ?_
                  refine r_if_ne (pc := 96) (tgt := 114) d_Md_island_96 (by decide) (fun c7 => ?_) (fun c7 => ?_)
                  · exact absurd rfl c7
                  · refine ldi_n_5_2 (pc := 99) d_Md_island_99 ?_
                    refine r_bipush (pc := 100) (v := 10) d_Md_island_100 rfl ?_
                    refine r_icmp_ge (pc := 102) (tgt := 118) d_Md_island_102 (by decide) (fun c8 => ?_) (fun c8 => ?_)
                    · have hk0 : k = 0 := by
                        rcases Nat.eq_zero_or_pos k with q | q
                        · exact q
                        · exact absurd (show nI 10 ≤ nI (m + 1) from c8) (nI_ge (by omega) (by omega))
                      rw [if_pos hk0] at e
                      refine r_iconst (pc := 118) (v := 0) d_Md_island_118 rfl ?_
                      refine sti_n_5_3 (pc := 119) d_Md_island_119 rfl ?_
                      refine r_goto (pc := 120) (tgt := 29) d_Md_island_120 (by decide) ?_
                      refine ldi_n_5_3 (pc := 29) d_Md_island_29 ?_
                      refine r_if_eq (pc := 30) (tgt := 123) d_Md_island_30 (by decide) (fun c9 => ?_) (fun c9 => ?_)
                      · exact fin _ _ false (m + 1) op2 _ _ hr e hB2
                      · exact absurd rfl c9
                    · have hk0 : ¬ k = 0 := by
                        intro q
                        have : m + 1 = 10 := by omega
                        exact c8 (by rw [this]; decide)
                      rw [if_neg hk0] at e
                      refine lda_n_5_0 (pc := 105) d_Md_island_105 ?_
                      refine r_bipush (pc := 106) (v := 59) d_Md_island_106 rfl ?_
                      refine r_callV (pc := 108) (As := [.int 59]) (k := 9) (N := 56) (T := T_Md) k_Md_168 im_Md_is se_Md_is rfl (by decide) rfl (by decide) d_Md_island_108 (by assumption) (c_Md_is hM hx2 hr) rfl (Nat.le_of_ble_eq_true rfl) (by omega) (by omega) (by omega) (fun v S' I' J' hq => ?_)
                      obtain ⟨rfl, rfl, hr3, rfl⟩ := hq
                      have g3 := pis_good (f := f) (n := n) (s := rs) (x := 59)
                      unfold pgd at g3
                      refine r_if_eq (pc := 111) (tgt := 118) d_Md_island_111 (by decide) (fun c9 => ?_) (fun c9 => ?_)
                      · rw [if_neg (pb0 c9)] at e
                        refine r_iconst (pc := 118) (v := 0) d_Md_island_118 rfl ?_
                        refine sti_n_5_3 (pc := 119) d_Md_island_119 rfl ?_
                        refine r_goto (pc := 120) (tgt := 29) d_Md_island_120 (by decide) ?_
                        refine ldi_n_5_3 (pc := 29) d_Md_island_29 ?_
                        refine r_if_eq (pc := 30) (tgt := 123) d_Md_island_30 (by decide) (fun d1 => ?_) (fun d1 => ?_)
                        · exact fin _ _ false (m + 1) op2 _ _ hr3 e hB2
                        · exact absurd rfl d1
                      · rw [if_pos (pb1 c9)] at e
                        refine r_iconst (pc := 114) (v := 1) d_Md_island_114 rfl ?_
                        refine r_goto (pc := 115) (tgt := 119) d_Md_island_115 (by decide) ?_
                        refine sti_n_5_3 (pc := 119) d_Md_island_119 rfl ?_
                        refine r_goto (pc := 120) (tgt := 29) d_Md_island_120 (by decide) ?_
                        exact ih (m + 1) op2 _ _ _ (by omega) (by omega) hr3 hx2 hB2 (by omega) e
                · have heq : rs.1 = n := (nI_eq (by omega) (by omega)).mp c6
                  rw [if_pos heq] at e
                  refine r_iconst (pc := 87) (v := 1) d_Md_island_87 rfl ?_
                  refine r_goto (pc := 88) (tgt := 92) d_Md_island_88 (by decide) ?_
                  refine sti_5_4 (pc := 92) d_Md_island_92 rfl ?_
                  refine ldi_5_4 (pc := 94) d_Md_island_94 ?_
                  refine r_if_ne (pc := 96) (tgt := 114) d_Md_island_96 (by decide) (fun c7 => ?_) (fun c7 => ?_)
                  · refine r_iconst (pc := 114) (v := 1) d_Md_island_114 rfl ?_
                    refine r_goto (pc := 115) (tgt := 119) d_Md_island_115 (by decide) ?_
                    refine sti_n_5_3 (pc := 119) d_Md_island_119 rfl ?_
                    refine r_goto (pc := 120) (tgt := 29) d_Md_island_120 (by decide) ?_
                    refine ldi_n_5_3 (pc := 29) d_Md_island_29 ?_
                    refine r_if_eq (pc := 30) (tgt := 123) d_Md_island_30 (by decide) (fun c8 => ?_) (fun c8 => ?_)
                    · exact absurd c8 (by decide)
                    · refine ldi_5_4 (pc := 33) d_Md_island_33 ?_
                      refine r_if_ne (pc := 35) (tgt := 123) d_Md_island_35 (by decide) (fun c9 => ?_) (fun c9 => ?_)
                      · exact fin _ _ true (m + 1) op2 _ _ hr e hB2
                      · exact absurd c9 (by decide)
                  · exact absurd c7 (by decide)
              · exact absurd c5 (by decide)
  have h0 : pRd I n cz op0 (0, []) (qup I 114 13 0) := ⟨fun a a1 _ => qup_row a1, fun j j1 _ _ _ _ => qup_j j1, by rw [qup_at]; rfl, Nat.zero_le _, by rw [qup_j (by decide)]; exact h16, by rw [qup_j (by decide)]; exact h25, fun j _ => qup_o (by decide), fun j hj => absurd hj (Nat.not_lt_zero _)⟩
  refine qMet.of (L := [some (.ref (qb E + 114)), none, none, none, none]) (by decide +kernel) (Nat.le_of_ble_eq_true rfl) rfl ?_
  refine lda_n_5_0 (pc := 0) d_Md_island_0 ?_
  refine g_Md_215 (pc := 1) rfl d_Md_island_1 (by assumption) ?_
  refine r_bipush (pc := 4) (v := 6) d_Md_island_4 rfl ?_
  rw [h17]
  refine r_icmp_ne (pc := 6) (tgt := 12) d_Md_island_6 (by decide) (fun c => ?_) (fun c => ?_)
  · refine lda_n_5_0 (pc := 12) d_Md_island_12 ?_
    refine g_Md_171 (pc := 13) rfl d_Md_island_13 (by assumption) ?_
    refine sti_n_5_1 (pc := 16) d_Md_island_16 rfl ?_
    refine lda_n_5_0 (pc := 17) d_Md_island_17 ?_
    refine r_iconst (pc := 18) (v := 0) d_Md_island_18 rfl ?_
    refine p_Md_146 (pc := 19) rfl d_Md_island_19 (by assumption) ?_
    refine r_iconst (pc := 22) (v := 0) d_Md_island_22 rfl ?_
    refine sti_n_5_2 (pc := 23) d_Md_island_23 rfl ?_
    refine r_iconst (pc := 24) (v := 1) d_Md_island_24 rfl ?_
    refine sti_n_5_3 (pc := 25) d_Md_island_25 rfl ?_
    refine r_iconst (pc := 26) (v := 0) d_Md_island_26 rfl ?_
    refine sti_5_4 (pc := 27) d_Md_island_27 rfl ?_
    rw [h25]
    exact key 10 0 op0 I _ (0, []) rfl (by decide) h0 hx h17 (Nat.zero_le _) hend
  · have : h = 6 := (nI_eq (by omega) (by omega)).mp (show nI h = nI 6 from c)
    omega
end G22
