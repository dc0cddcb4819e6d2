/-! the reference's reader: a clause -/
section PCL
variable (f : Nat → Int32) (n : Nat)
def pw (a : Nat) : Int32 := if a < n then (if f a = 97 then 0 else if f a = 99 then 1 else if f a = 108 then 2 else -1) else -1
def pwi (a : Nat) : Nat := if f a = 97 then 1 else if f a = 99 then 2 else 3
def pB1 (B : qI) (cz c : Nat) (w v : Int32) (t : pSt) : qI := qup (qup (qup B 125 c w) 126 c v) 127 c (nI (cz + t.2.length))
/-- the rest of a clause, its number read -/
def ptl (B : qI) (cz c : Nat) (w v : Int32) (t : pSt) : Bool × pSt × qI :=
  if w < 2 then
    if (pis f n 32 t).1 = true then
      if (pE f n (pF f n 4) (pis f n 32 t).2).1 = true then (true, (pE f n (pF f n 4) (pis f n 32 t).2).2, qup (pB1 B cz c w v t) 128 c (nI ((pE f n (pF f n 4) (pis f n 32 t).2).2.2.length - t.2.length)))
      else (false, (pE f n (pF f n 4) (pis f n 32 t).2).2, pB1 B cz c w v t)
    else (false, (pis f n 32 t).2, pB1 B cz c w v t)
  else (true, t, qup (pB1 B cz c w v t) 128 c 0)
def pcl (B : qI) (cz c : Nat) (s : pSt) : Bool × pSt × qI :=
  if pw f n s.1 = -1 then (false, s, B)
  else if (pall f n (qByt.getD (pwi f s.1) []) s).1 = true then
    if (pnumL f n 2 0 0 (pall f n (qByt.getD (pwi f s.1) []) s).2.1).2.1 = 0 then (false, ((pnumL f n 2 0 0 (pall f n (qByt.getD (pwi f s.1) []) s).2.1).2.2, (pall f n (qByt.getD (pwi f s.1) []) s).2.2), B)
    else ptl f n B cz c (pw f n s.1) (pnumL f n 2 0 0 (pall f n (qByt.getD (pwi f s.1) []) s).2.1).1 ((pnumL f n 2 0 0 (pall f n (qByt.getD (pwi f s.1) []) s).2.1).2.2, (pall f n (qByt.getD (pwi f s.1) []) s).2.2)
  else (false, (pall f n (qByt.getD (pwi f s.1) []) s).2, B)
end PCL
theorem pRd.row {I0 I : qI} {n cz op : Nat} {s : pSt} {a0 j0 : Nat} {x : Int32} (h : pRd I0 n cz op s I) (n1 : a0 ≠ 114) (n2 : a0 ≠ 129) : pRd (qup I0 a0 j0 x) n cz op s (qup I a0 j0 x) := by
  obtain ⟨h1, h2, h3, h4, h5, h6, h7, h8⟩ := h
  refine ⟨fun a a1 a2 => ?_, fun j j1 j2 j3 j4 j5 => by rw [qup_row (Ne.symm n1), qup_row (Ne.symm n1)]; exact h2 j j1 j2 j3 j4 j5, by rw [qup_row (Ne.symm n1)]; exact h3, h4, by rw [qup_row (Ne.symm n1)]; exact h5, by rw [qup_row (Ne.symm n1)]; exact h6, fun j hj => by rw [qup_row (Ne.symm n2), qup_row (Ne.symm n2)]; exact h7 j hj, fun j hj => by rw [qup_row (Ne.symm n2)]; exact h8 j hj⟩
  funext k
  by_cases e : a = a0 ∧ k = j0
  · obtain ⟨rfl, rfl⟩ := e; rw [qup_at, qup_at]
  · rw [qup_ne e, qup_ne e, h1 a a1 a2]
theorem pTx.row {I0 : qI} {f : Nat → Int32} {n a0 j0 : Nat} {x : Int32} (h : pTx I0 f n) (n1 : a0 ≠ 114) (n2 : a0 ≠ 123) : pTx (qup I0 a0 j0 x) f n := by
  unfold pTx
  rw [qup_row (Ne.symm n1), qup_row (Ne.symm n2)]
  exact h
abbrev pCQ (S : qSh) (J : qJ) (n cz : Nat) (r : Bool × pSt × qI) : qPost := fun v S' I' J' => v = some (.int (if r.1 = true then 1 else 0)) ∧ S = S' ∧ (∃ op, pRd r.2.2 n cz op r.2.1 I') ∧ J = J'
section G21
variable {E : qE} {S : qSh} {B : qI} {J : qJ} {f : Nat → Int32} {n cz : Nat}
theorem pnum_len {a : Nat} : a ≤ (pnumL f n 2 0 0 a).2.2 := by
  have := pnumL_good (f := f) (n := n) 2 0 0 a
  omega
theorem c_Md_isClause {I : qI} {op c : Nat} {s : pSt} (hM : isMd S) (hx : pTx B f n) (hcz : cz ≤ 600) (hc : c < 61) (h : pRd B n cz op s I) (hs : s.2.length ≤ s.1) : qMet E y_Md_isClause b_Md_isClause 4 (some .boolean) 20 0 0 [.ref (qb E + 114), .int (nI c)] S I J (pCQ S J n cz (pcl f n B cz c s)) := by
  have hT := hM.1
  have f12 := hM.r 8 rfl
  have g12 := hM.a 8 rfl
  have f20 := hM.r 10 rfl
  have g20 := hM.a 10 rfl
  have f21 := hM.r 11 rfl
  have g21 := hM.a 11 rfl
  have f22 := hM.r 12 rfl
  have g22 := hM.a 12 rfl
  have f23 := hM.r 13 rfl
  have g23 := hM.a 13 rfl
  have ecl : (nI c).toNatClampNeg = c := qcl (by omega)
  have hin : vp_in (nI c) 61 := vp_in_nI hc (by omega)
  have hf : ∀ j, j < n → ∃ k, k < 128 ∧ f j = nI k := fun j hj => (hx.2.2 j hj).2
  have hn := hx.2.1
  have tail : ∀ (K : qI) (w : Int32) (a : Option Value) (t : pSt), qn2 a = true → (w = 0 ∨ w = 1 ∨ w = 2) → pRd B n cz op t K → t.2.length ≤ t.1 → qW E y_Md_isClause b_Md_isClause (some .boolean) 20 0 0 (pCQ S J n cz (ptl f n B cz c w (K 114 14) t)) 0 0 129 [some (.ref (qb E + 114)), some (.int (nI c)), some (.int w), a] [] S K J := by
    intro K w a t na hw hK hl
    have k6 := hK.2.2.2.2.2.1
    have b1 := hK.2.2.2.1
    refine lda_n_4_0 (pc := 129) d_Md_isClause_129 ?_
    refine g_Md_42 (pc := 130) rfl d_Md_isClause_130 (by assumption) (by assumption) ?_
    refine ldi_n_4_1 (pc := 133) d_Md_isClause_133 ?_
    refine ldi_n_4_2 (pc := 134) d_Md_isClause_134 ?_
    refine r_iast (pc := 135) d_Md_isClause_135 (by assumption) (by first | assumption | exact vp_in_nI (by omega) (by omega) | (unfold vp_in; decide)) ?_
    refine lda_n_4_0 (pc := 136) d_Md_isClause_136 ?_
    refine g_Md_45 (pc := 137) rfl d_Md_isClause_137 (by assumption) (by assumption) ?_
    refine ldi_n_4_1 (pc := 140) d_Md_isClause_140 ?_
    refine lda_n_4_0 (pc := 141) d_Md_isClause_141 ?_
    refine g_Md_149 (pc := 142) rfl d_Md_isClause_142 (by assumption) ?_
    refine r_iast (pc := 145) d_Md_isClause_145 (by assumption) (by first | assumption | exact vp_in_nI (by omega) (by omega) | (unfold vp_in; decide)) ?_
    refine lda_n_4_0 (pc := 146) d_Md_isClause_146 ?_
    refine g_Md_48 (pc := 147) rfl d_Md_isClause_147 (by assumption) (by assumption) ?_
    refine ldi_n_4_1 (pc := 150) d_Md_isClause_150 ?_
    refine lda_n_4_0 (pc := 151) d_Md_isClause_151 ?_
    refine g_Md_171 (pc := 152) rfl d_Md_isClause_152 (by assumption) ?_
    refine r_iast (pc := 155) d_Md_isClause_155 (by assumption) (by first | assumption | exact vp_in_nI (by omega) (by omega) | (unfold vp_in; decide)) ?_
    have z1 : qup K 125 c w 114 14 = K 114 14 := qup_o (by decide)
    have z2 : qup (qup K 125 c w) 126 c (K 114 14) 114 25 = K 114 25 := by rw [qup_o (by decide), qup_o (by decide)]
    rw [ecl, z1, z2]
    have w1 : pRd (pB1 B cz c w (K 114 14) t) n cz op t (qup (qup (qup K 125 c w) 126 c (K 114 14)) 127 c (K 114 25)) := by
      rw [k6]
      exact ((hK.row (a0 := 125) (j0 := c) (x := w) (by decide) (by decide)).row (a0 := 126) (j0 := c) (x := K 114 14) (by decide) (by decide)).row (a0 := 127) (j0 := c) (x := nI (cz + t.2.length)) (by decide) (by decide)
    have hx1 : pTx (pB1 B cz c w (K 114 14) t) f n := ((hx.row (a0 := 125) (by decide) (by decide)).row (a0 := 126) (by decide) (by decide)).row (a0 := 127) (by decide) (by decide)
    have r127 : pB1 B cz c w (K 114 14) t 127 c = nI (cz + t.2.length) := by unfold pB1; rw [qup_at]
    unfold ptl
    generalize pB1 B cz c w (K 114 14) t = B1 at w1 hx1 r127 ⊢
    generalize K 114 14 = vv at w1 ⊢
    generalize qup (qup (qup K 125 c w) 126 c vv) 127 c (K 114 25) = M at w1 ⊢
    refine lda_n_4_0 (pc := 156) d_Md_isClause_156 ?_
    refine r_iconst (pc := 157) (v := 0) d_Md_isClause_157 rfl ?_
    refine p_Md_187 (pc := 158) rfl d_Md_isClause_158 (by assumption) ?_
    refine ldi_n_4_2 (pc := 161) d_Md_isClause_161 ?_
    refine r_iconst (pc := 162) (v := 2) d_Md_isClause_162 rfl ?_
    have w2 := w1.op (op2 := 0) (x := 0) rfl
    generalize qup M 114 16 0 = M2 at w2 ⊢
    refine r_icmp_ge (pc := 163) (tgt := 184) d_Md_isClause_163 (by decide) (fun c1 => ?_) (fun c1 => ?_)
    · have hw2 : ¬ w < 2 := Int32.not_lt.mpr c1
      rw [if_neg hw2]
      have k6 := w2.2.2.2.2.2.1
      have k7 : M2 127 c = nI (cz + t.2.length) := by rw [w2.1 127 (by decide) (by decide)]; exact r127
      refine lda_n_4_0 (pc := 184) d_Md_isClause_184 ?_
      refine g_Md_51 (pc := 185) rfl d_Md_isClause_185 (by assumption) (by assumption) ?_
      refine ldi_n_4_1 (pc := 188) d_Md_isClause_188 ?_
      refine lda_n_4_0 (pc := 189) d_Md_isClause_189 ?_
      refine g_Md_171 (pc := 190) rfl d_Md_isClause_190 (by assumption) ?_
      refine lda_n_4_0 (pc := 193) d_Md_isClause_193 ?_
      refine g_Md_48 (pc := 194) rfl d_Md_isClause_194 (by assumption) (by assumption) ?_
      refine ldi_n_4_1 (pc := 197) d_Md_isClause_197 ?_
      rw [k6]
      refine r_iald (pc := 198) d_Md_isClause_198 (by assumption) (by first | assumption | exact vp_in_nI (by omega) (by omega) | (unfold vp_in; decide)) ?_
      rw [ecl, k7]
      refine r_isub (pc := 199) d_Md_isClause_199 ?_
      refine r_iast (pc := 200) d_Md_isClause_200 (by assumption) (by first | assumption | exact vp_in_nI (by omega) (by omega) | (unfold vp_in; decide)) ?_
      refine r_iconst (pc := 201) (v := 1) d_Md_isClause_201 rfl ?_
      rw [ecl, nI_subN (Nat.le_refl _), Nat.sub_self]
      exact r_nret d_Md_isClause_202 rfl (qbool_n (by first | exact Or.inl rfl | exact Or.inr rfl | assumption | exact qwithin_b | exact qbit_b)) (by omega) (by omega) (⟨rfl, rfl, ⟨0, w2.row (by decide) (by decide)⟩, rfl⟩)
    · have hw2 : w < 2 := Int32.not_le.mp c1
      rw [if_pos hw2]
      refine lda_n_4_0 (pc := 166) d_Md_isClause_166 ?_
      refine r_bipush (pc := 167) (v := 32) d_Md_isClause_167 rfl ?_
      refine r_callV (pc := 169) (As := [.int 32]) (k := 9) (N := 56) (T := T_Md) k_Md_168 im_Md_is se_Md_is rfl (by decide) rfl (by decide) d_Md_isClause_169 (by assumption) (c_Md_is hM hx1 w2) rfl (Nat.le_of_ble_eq_true rfl) (by omega) (by omega) (by omega) (fun v S' I' J' hq => ?_)
      obtain ⟨rfl, rfl, hr1, rfl⟩ := hq
      refine r_if_eq (pc := 172) (tgt := 182) d_Md_isClause_172 (by decide) (fun c2 => ?_) (fun c2 => ?_)
      · rw [if_neg (pb0 c2)]
        refine r_iconst (pc := 182) (v := 0) d_Md_isClause_182 rfl ?_
        exact r_nret d_Md_isClause_183 rfl (qbool_n (by first | exact Or.inl rfl | exact Or.inr rfl | assumption | exact qwithin_b | exact qbit_b)) (by omega) (by omega) (⟨rfl, rfl, ⟨0, hr1⟩, rfl⟩)
      · rw [if_pos (pb1 c2)]
        have hp1 : (pis f n 32 t).2.2.length ≤ (pis f n 32 t).2.1 := by
          rw [pis_codes]; unfold pis; split
          · exact Nat.le_succ_of_le hl
          · exact hl
        refine lda_n_4_0 (pc := 175) d_Md_isClause_175 ?_
        refine r_callV (pc := 176) (As := []) (k := 9) (N := 56) (T := T_Md) k_Md_196 im_Md_isE se_Md_isE rfl (by decide) rfl (by decide) d_Md_isClause_176 (by assumption) (c_Md_isE0 hM hx1 hcz hr1 hp1) rfl (Nat.le_of_ble_eq_true rfl) (by omega) (by omega) (by omega) (fun v S' I' J' hq => ?_)
        obtain ⟨rfl, rfl, hr2, rfl⟩ := hq
        refine r_if_ne (pc := 179) (tgt := 184) d_Md_isClause_179 (by decide) (fun c3 => ?_) (fun c3 => ?_)
        · rw [if_pos (pb1 c3)]
          have k6 := hr2.2.2.2.2.2.1
          have k7 : I' 127 c = nI (cz + t.2.length) := by rw [hr2.1 127 (by decide) (by decide)]; exact r127
          obtain ⟨ww, x1, -⟩ := pE_ext (f := f) (n := n) (pF_ext hf 4) (pis f n 32 t).2
          have x2 : t.2.length ≤ (pE f n (pF f n 4) (pis f n 32 t).2).2.2.length := by rw [x1, pis_codes, List.length_append]; omega
          refine lda_n_4_0 (pc := 184) d_Md_isClause_184 ?_
          refine g_Md_51 (pc := 185) rfl d_Md_isClause_185 (by assumption) (by assumption) ?_
          refine ldi_n_4_1 (pc := 188) d_Md_isClause_188 ?_
          refine lda_n_4_0 (pc := 189) d_Md_isClause_189 ?_
          refine g_Md_171 (pc := 190) rfl d_Md_isClause_190 (by assumption) ?_
          refine lda_n_4_0 (pc := 193) d_Md_isClause_193 ?_
          refine g_Md_48 (pc := 194) rfl d_Md_isClause_194 (by assumption) (by assumption) ?_
          refine ldi_n_4_1 (pc := 197) d_Md_isClause_197 ?_
          rw [k6]
          refine r_iald (pc := 198) d_Md_isClause_198 (by assumption) (by first | assumption | exact vp_in_nI (by omega) (by omega) | (unfold vp_in; decide)) ?_
          rw [ecl, k7]
          refine r_isub (pc := 199) d_Md_isClause_199 ?_
          refine r_iast (pc := 200) d_Md_isClause_200 (by assumption) (by first | assumption | exact vp_in_nI (by omega) (by omega) | (unfold vp_in; decide)) ?_
          refine r_iconst (pc := 201) (v := 1) d_Md_isClause_201 rfl ?_
          rw [ecl, nI_subN (by omega), show cz + (pE f n (pF f n 4) (pis f n 32 t).2).2.2.length - (cz + t.2.length) = (pE f n (pF f n 4) (pis f n 32 t).2).2.2.length - t.2.length by omega]
          exact r_nret d_Md_isClause_202 rfl (qbool_n (by first | exact Or.inl rfl | exact Or.inr rfl | assumption | exact qwithin_b | exact qbit_b)) (by omega) (by omega) (⟨rfl, rfl, ⟨0, hr2.row (by decide) (by decide)⟩, rfl⟩)
        · rw [if_neg (pb0 c3)]
          refine r_iconst (pc := 182) (v := 0) d_Md_isClause_182 rfl ?_
          exact r_nret d_Md_isClause_183 rfl (qbool_n (by first | exact Or.inl rfl | exact Or.inr rfl | assumption | exact qwithin_b | exact qbit_b)) (by omega) (by omega) (⟨rfl, rfl, ⟨0, hr2⟩, rfl⟩)
  have num : ∀ (K : qI) (w : Int32) (r : Bool × pSt), (w = 0 ∨ w = 1 ∨ w = 2) → pRd B n cz op r.2 K → r.2.2.length ≤ r.2.1 → w = pw f n s.1 → ¬ pw f n s.1 = -1 → r = pall f n (qByt.getD (pwi f s.1) []) s → qW E y_Md_isClause b_Md_isClause (some .boolean) 20 0 0 (pCQ S J n cz (pcl f n B cz c s)) 0 0 115 [some (.ref (qb E + 114)), some (.int (nI c)), some (.int w), none] [.int (if r.1 = true then 1 else 0)] S K J := by
    intro K w r hw hK hl ew hne er
    unfold pcl
    rw [if_neg hne, ← er, ← ew]
    refine sti_n_4_3 (pc := 115) d_Md_isClause_115 rfl ?_
    refine ldi_n_4_3 (pc := 116) d_Md_isClause_116 ?_
    refine r_if_eq (pc := 117) (tgt := 127) d_Md_isClause_117 (by decide) (fun c1 => ?_) (fun c1 => ?_)
    · rw [if_neg (pb0 c1)]
      refine r_iconst (pc := 127) (v := 0) d_Md_isClause_127 rfl ?_
      exact r_nret d_Md_isClause_128 rfl (qbool_n (by first | exact Or.inl rfl | exact Or.inr rfl | assumption | exact qwithin_b | exact qbit_b)) (by omega) (by omega) (⟨rfl, rfl, ⟨op, hK⟩, rfl⟩)
    · rw [if_pos (pb1 c1)]
      refine lda_n_4_0 (pc := 120) d_Md_isClause_120 ?_
      refine r_callV (pc := 121) (As := []) (k := 9) (N := 56) (T := T_Md) k_Md_181 im_Md_isNumber se_Md_isNumber rfl (by decide) rfl (by decide) d_Md_isClause_121 (by assumption) (c_Md_isNumber hM hx hK) rfl (Nat.le_of_ble_eq_true rfl) (by omega) (by omega) (by omega) (fun v S' I' J' hq => ?_)
      obtain ⟨rfl, rfl, ⟨hq1, hq2⟩, rfl⟩ := hq
      by_cases q : (pnumL f n 2 0 0 r.2.1).2.1 = 0
      · rw [if_pos q, if_pos q]
        refine r_if_ne (pc := 124) (tgt := 129) d_Md_isClause_124 (by decide) (fun c2 => ?_) (fun c2 => ?_)
        · exact absurd rfl c2
        · refine r_iconst (pc := 127) (v := 0) d_Md_isClause_127 rfl ?_
          exact r_nret d_Md_isClause_128 rfl (qbool_n (by first | exact Or.inl rfl | exact Or.inr rfl | assumption | exact qwithin_b | exact qbit_b)) (by omega) (by omega) (⟨rfl, rfl, ⟨op, hq1⟩, rfl⟩)
      · rw [if_neg q, if_neg q]
        refine r_if_ne (pc := 124) (tgt := 129) d_Md_isClause_124 (by decide) (fun c2 => ?_) (fun c2 => ?_)
        · rw [← hq2]
          exact tail I' w _ _ rfl hw hq1 (Nat.le_trans hl pnum_len)
        · exact absurd c2 (by decide)
  have non : pw f n s.1 = -1 → qW E y_Md_isClause b_Md_isClause (some .boolean) 20 0 0 (pCQ S J n cz (pcl f n B cz c s)) 0 0 69 [some (.ref (qb E + 114)), some (.int (nI c)), some (.int (-1)), none] [] S I J := by
    intro e
    rw [show pcl f n B cz c s = (false, s, B) from if_pos e]
    refine ldi_n_4_2 (pc := 69) d_Md_isClause_69 ?_
    refine r_if_ne (pc := 70) (tgt := 82) d_Md_isClause_70 (by decide) (fun c1 => ?_) (fun c1 => ?_)
    · refine ldi_n_4_2 (pc := 82) d_Md_isClause_82 ?_
      refine r_iconst (pc := 83) (v := 1) d_Md_isClause_83 rfl ?_
      refine r_icmp_ne (pc := 84) (tgt := 96) d_Md_isClause_84 (by decide) (fun c2 => ?_) (fun c2 => ?_)
      · refine ldi_n_4_2 (pc := 96) d_Md_isClause_96 ?_
        refine r_iconst (pc := 97) (v := 2) d_Md_isClause_97 rfl ?_
        refine r_icmp_ne (pc := 98) (tgt := 114) d_Md_isClause_98 (by decide) (fun c3 => ?_) (fun c3 => ?_)
        · refine r_iconst (pc := 114) (v := 0) d_Md_isClause_114 rfl ?_
          refine sti_n_4_3 (pc := 115) d_Md_isClause_115 rfl ?_
          refine ldi_n_4_3 (pc := 116) d_Md_isClause_116 ?_
          refine r_if_eq (pc := 117) (tgt := 127) d_Md_isClause_117 (by decide) (fun c4 => ?_) (fun c4 => ?_)
          · refine r_iconst (pc := 127) (v := 0) d_Md_isClause_127 rfl ?_
            exact r_nret d_Md_isClause_128 rfl (qbool_n (by first | exact Or.inl rfl | exact Or.inr rfl | assumption | exact qwithin_b | exact qbit_b)) (by omega) (by omega) (⟨rfl, rfl, ⟨op, h⟩, rfl⟩)
          · exact absurd rfl c4
        · exact absurd c3 (by decide)
      · exact absurd c2 (by decide)
    · exact absurd c1 (by decide)
  have wl : ∀ i, (pall f n (qByt.getD i []) s).2.2.length ≤ (pall f n (qByt.getD i []) s).2.1 := fun i => by
    have := pall_len (f := f) (n := n) (qByt.getD i []) s
    rw [this.1]; omega
  have h0 := h
  obtain ⟨h1, h2, h3, h4, h5, h6, h7, h8⟩ := h
  have hn2 : I 114 11 = nI n := by rw [h2 11 (by decide) (by decide) (by decide) (by decide) (by decide)]; exact hx.1
  refine qMet.of (L := [some (.ref (qb E + 114)), some (.int (nI c)), none, none]) (by decide +kernel) (Nat.le_of_ble_eq_true rfl) rfl ?_
  refine r_iconst (pc := 0) (v := (-1)) d_Md_isClause_0 rfl ?_
  refine sti_n_4_2 (pc := 1) d_Md_isClause_1 rfl ?_
  refine lda_n_4_0 (pc := 2) d_Md_isClause_2 ?_
  refine g_Md_146 (pc := 3) rfl d_Md_isClause_3 (by assumption) ?_
  refine lda_n_4_0 (pc := 6) d_Md_isClause_6 ?_
  refine g_Md_143 (pc := 7) rfl d_Md_isClause_7 (by assumption) ?_
  rw [h3, hn2]
  refine r_icmp_ge (pc := 10) (tgt := 69) d_Md_isClause_10 (by decide) (fun c1 => ?_) (fun c1 => ?_)
  · have e : pw f n s.1 = -1 := by unfold pw; rw [if_neg (fun q => absurd c1 (nI_ge q (by omega)))]
    exact non e
  · have hlt : s.1 < n := by
      rcases Nat.lt_or_ge s.1 n with q | q
      · exact q
      · exact absurd (nI_le q (by omega)) c1
    have e123 : I 123 s.1 = f s.1 := by rw [h1 123 (by decide) (by decide)]; exact (hx.2.2 _ hlt).1
    refine lda_n_4_0 (pc := 13) d_Md_isClause_13 ?_
    refine g_Md_36 (pc := 14) rfl d_Md_isClause_14 (by assumption) (by assumption) ?_
    refine lda_n_4_0 (pc := 17) d_Md_isClause_17 ?_
    refine g_Md_146 (pc := 18) rfl d_Md_isClause_18 (by assumption) ?_
    rw [h3]
    refine r_iald (pc := 21) d_Md_isClause_21 (by assumption) (by first | assumption | exact vp_in_nI (by omega) (by omega) | (unfold vp_in; decide)) ?_
    refine r_bipush (pc := 22) (v := 97) d_Md_isClause_22 rfl ?_
    rw [qcl (n := s.1) (by omega), e123]
    refine r_icmp_ne (pc := 24) (tgt := 31) d_Md_isClause_24 (by decide) (fun d1 => ?_) (fun d1 => ?_)
    · refine lda_n_4_0 (pc := 31) d_Md_isClause_31 ?_
      refine g_Md_36 (pc := 32) rfl d_Md_isClause_32 (by assumption) (by assumption) ?_
      refine lda_n_4_0 (pc := 35) d_Md_isClause_35 ?_
      refine g_Md_146 (pc := 36) rfl d_Md_isClause_36 (by assumption) ?_
      rw [h3]
      refine r_iald (pc := 39) d_Md_isClause_39 (by assumption) (by first | assumption | exact vp_in_nI (by omega) (by omega) | (unfold vp_in; decide)) ?_
      refine r_bipush (pc := 40) (v := 99) d_Md_isClause_40 rfl ?_
      rw [qcl (n := s.1) (by omega), e123]
      refine r_icmp_ne (pc := 42) (tgt := 49) d_Md_isClause_42 (by decide) (fun d2 => ?_) (fun d2 => ?_)
      · refine lda_n_4_0 (pc := 49) d_Md_isClause_49 ?_
        refine g_Md_36 (pc := 50) rfl d_Md_isClause_50 (by assumption) (by assumption) ?_
        refine lda_n_4_0 (pc := 53) d_Md_isClause_53 ?_
        refine g_Md_146 (pc := 54) rfl d_Md_isClause_54 (by assumption) ?_
        rw [h3]
        refine r_iald (pc := 57) d_Md_isClause_57 (by assumption) (by first | assumption | exact vp_in_nI (by omega) (by omega) | (unfold vp_in; decide)) ?_
        refine r_bipush (pc := 58) (v := 108) d_Md_isClause_58 rfl ?_
        rw [qcl (n := s.1) (by omega), e123]
        refine r_icmp_ne (pc := 60) (tgt := 67) d_Md_isClause_60 (by decide) (fun d3 => ?_) (fun d3 => ?_)
        · have e : pw f n s.1 = -1 := by unfold pw; rw [if_pos hlt, if_neg d1, if_neg d2, if_neg d3]
          refine r_iconst (pc := 67) (v := (-1)) d_Md_isClause_67 rfl ?_
          refine sti_n_4_2 (pc := 68) d_Md_isClause_68 rfl ?_
          exact non e
        · have e : pw f n s.1 = 2 := by unfold pw; rw [if_pos hlt, if_neg d1, if_neg d2, if_pos d3]
          have ei : pwi f s.1 = 3 := by unfold pwi; rw [if_neg d1, if_neg d2]
          refine r_iconst (pc := 63) (v := 2) d_Md_isClause_63 rfl ?_
          refine r_goto (pc := 64) (tgt := 68) d_Md_isClause_64 (by decide) ?_
          refine sti_n_4_2 (pc := 68) d_Md_isClause_68 rfl ?_
          refine ldi_n_4_2 (pc := 69) d_Md_isClause_69 ?_
          refine r_if_ne (pc := 70) (tgt := 82) d_Md_isClause_70 (by decide) (fun c2 => ?_) (fun c2 => ?_)
          · refine ldi_n_4_2 (pc := 82) d_Md_isClause_82 ?_
            refine r_iconst (pc := 83) (v := 1) d_Md_isClause_83 rfl ?_
            refine r_icmp_ne (pc := 84) (tgt := 96) d_Md_isClause_84 (by decide) (fun c3 => ?_) (fun c3 => ?_)
            · refine ldi_n_4_2 (pc := 96) d_Md_isClause_96 ?_
              refine r_iconst (pc := 97) (v := 2) d_Md_isClause_97 rfl ?_
              refine r_icmp_ne (pc := 98) (tgt := 114) d_Md_isClause_98 (by decide) (fun c4 => ?_) (fun c4 => ?_)
              · exact absurd rfl c4
              · refine lda_n_4_0 (pc := 101) d_Md_isClause_101 ?_
                refine r_ldcS (pc := 102) (tx := "lost ") (i := 3) (by decide +kernel) d_Md_isClause_102 ?_
                refine r_callV (pc := 104) (As := [.ref (qsK E 3)]) (k := 9) (N := 56) (T := T_Md) k_Md_207 im_Md_isAll se_Md_isAll rfl (by decide) rfl (by decide) d_Md_isClause_104 (by assumption) (c_Md_isAll (i := 3) (by decide) hM hx h0) rfl (Nat.le_of_ble_eq_true rfl) (by omega) (by omega) (by omega) (fun v S' I' J' hq => ?_)
                obtain ⟨rfl, rfl, hr, rfl⟩ := hq
                have nn := num _ 2 (pall f n (qByt.getD 3 []) s) (Or.inr (Or.inr rfl)) hr (wl 3) e.symm (by rw [e]; decide) (by rw [ei])
                refine r_if_eq (pc := 107) (tgt := 114) d_Md_isClause_107 (by decide) (fun c5 => ?_) (fun c5 => ?_)
                · rw [if_neg (pb0 c5)] at nn
                  refine r_iconst (pc := 114) (v := 0) d_Md_isClause_114 rfl ?_
                  exact nn
                · rw [if_pos (pb1 c5)] at nn
                  refine r_iconst (pc := 110) (v := 1) d_Md_isClause_110 rfl ?_
                  refine r_goto (pc := 111) (tgt := 115) d_Md_isClause_111 (by decide) ?_
                  exact nn
            · exact absurd c3 (by decide)
          · exact absurd c2 (by decide)
      · have e : pw f n s.1 = 1 := by unfold pw; rw [if_pos hlt, if_neg d1, if_pos d2]
        have ei : pwi f s.1 = 2 := by unfold pwi; rw [if_neg d1, if_pos d2]
        refine r_iconst (pc := 45) (v := 1) d_Md_isClause_45 rfl ?_
        refine r_goto (pc := 46) (tgt := 68) d_Md_isClause_46 (by decide) ?_
        refine sti_n_4_2 (pc := 68) d_Md_isClause_68 rfl ?_
        refine ldi_n_4_2 (pc := 69) d_Md_isClause_69 ?_
        refine r_if_ne (pc := 70) (tgt := 82) d_Md_isClause_70 (by decide) (fun c2 => ?_) (fun c2 => ?_)
        · refine ldi_n_4_2 (pc := 82) d_Md_isClause_82 ?_
          refine r_iconst (pc := 83) (v := 1) d_Md_isClause_83 rfl ?_
          refine r_icmp_ne (pc := 84) (tgt := 96) d_Md_isClause_84 (by decide) (fun c3 => ?_) (fun c3 => ?_)
          · exact absurd rfl c3
          · refine lda_n_4_0 (pc := 87) d_Md_isClause_87 ?_
            refine r_ldcS (pc := 88) (tx := "calm ") (i := 2) (by decide +kernel) d_Md_isClause_88 ?_
            refine r_callV (pc := 90) (As := [.ref (qsK E 2)]) (k := 9) (N := 56) (T := T_Md) k_Md_207 im_Md_isAll se_Md_isAll rfl (by decide) rfl (by decide) d_Md_isClause_90 (by assumption) (c_Md_isAll (i := 2) (by decide) hM hx h0) rfl (Nat.le_of_ble_eq_true rfl) (by omega) (by omega) (by omega) (fun v S' I' J' hq => ?_)
            obtain ⟨rfl, rfl, hr, rfl⟩ := hq
            have nn := num _ 1 (pall f n (qByt.getD 2 []) s) (Or.inr (Or.inl rfl)) hr (wl 2) e.symm (by rw [e]; decide) (by rw [ei])
            refine r_goto (pc := 93) (tgt := 115) d_Md_isClause_93 (by decide) ?_
            exact nn
        · exact absurd c2 (by decide)
    · have e : pw f n s.1 = 0 := by unfold pw; rw [if_pos hlt, if_pos d1]
      have ei : pwi f s.1 = 1 := by unfold pwi; rw [if_pos d1]
      refine r_iconst (pc := 27) (v := 0) d_Md_isClause_27 rfl ?_
      refine r_goto (pc := 28) (tgt := 68) d_Md_isClause_28 (by decide) ?_
      refine sti_n_4_2 (pc := 68) d_Md_isClause_68 rfl ?_
      refine ldi_n_4_2 (pc := 69) d_Md_isClause_69 ?_
      refine r_if_ne (pc := 70) (tgt := 82) d_Md_isClause_70 (by decide) (fun c2 => ?_) (fun c2 => ?_)
      · exact absurd rfl c2
      · refine lda_n_4_0 (pc := 73) d_Md_isClause_73 ?_
        refine r_ldcS (pc := 74) (tx := "ache ") (i := 1) (by decide +kernel) d_Md_isClause_74 ?_
        refine r_callV (pc := 76) (As := [.ref (qsK E 1)]) (k := 9) (N := 56) (T := T_Md) k_Md_207 im_Md_isAll se_Md_isAll rfl (by decide) rfl (by decide) d_Md_isClause_76 (by assumption) (c_Md_isAll (i := 1) (by decide) hM hx h0) rfl (Nat.le_of_ble_eq_true rfl) (by omega) (by omega) (by omega) (fun v S' I' J' hq => ?_)
        obtain ⟨rfl, rfl, hr, rfl⟩ := hq
        have nn := num _ 0 (pall f n (qByt.getD 1 []) s) (Or.inl rfl) hr (wl 1) e.symm (by rw [e]; decide) (by rw [ei])
        refine r_goto (pc := 79) (tgt := 115) d_Md_isClause_79 (by decide) ?_
        exact nn
end G21
